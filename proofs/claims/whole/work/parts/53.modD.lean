/-! THE REFERENCE: candidates; bytes of a text, a token scanned -/
theorem r_A_wqt {n sn tx : ch_N} {F t : Int32} {u : Nat} {hst : Nat → ch_N} {μ : ch_M} {a b : Nat → Int32} {x : Int32} (hJ : r_J n sn tx F u hst (μ 16)) : ∃ p', up (r_th μ t) 16 (r_pq (r_th μ t 16) a b x) = up μ 16 p' ∧ p' 22 0 6 = t ∧ r_J n sn tx F u hst p' := by
  rw [r_wq_0]
  have h := r_A_wq (μ := r_th μ t) (p := r_th μ t 16) (a := a) (b := b) (x := x) (t := t) (by rw [r_th_6]) (r_J_thm hJ) (show r_N n (r_th μ t 16 23 0) by rw [r_th_23]; exact hJ.1)
  rw [up_id] at h
  obtain ⟨p', e1, e2, e3⟩ := h
  exact ⟨p', by rw [e1, r_th_r], e2, e3⟩
set_option maxHeartbeats 100000 in
theorem c_X12_candidate {l : Launch} {E : ch_E} {S : ch_S} {μ : ch_M} (hs : ch_Std E S) {n sn tx : ch_N} {F : Int32} {u : Nat} {hst : Nat → ch_N} (hJ : r_J n sn tx F u hst (μ 16)) {q : ch_N} {m : Nat} (hm : m < k_mc n) {x : Int32} (h0 : ¬ x < 0) : ch_C E l yX12_candidate cX12_candidate 3 (some FieldType.int) 6 0 0 S μ [.ref (S.1 16 22 0), .int (nI m), .int x] (r_A (some (.int (k_car (k_rank n q m) x))) 0 n sn tx F u hst S μ) := by
  refine ch_enter rfl rfl ?_
  intro X hl0 h hG hR hnm
  have h : ch_H X E RX12 cX12_candidate 3 := h
  have hN := hJ.1
  have hm12 := r_m12 hN hm
  have hcc := hN.2.2.2.2.2.2.1
  show ch_W X E 3 S μ 0 0 0 [(0, .ref (S.1 16 22 0)), (1, .int (nI m)), (2, .int x)] []
  refine ca_aload_nr h dX12_candidate_0 rfl ?_
  refine ca_iconst h dX12_candidate_1 ik_0 ?_
  refine pi_X12_70 h (hs.1 _ _ _ ⟨rfl, rfl⟩) dX12_candidate_2 ?_
  refine ca_mem (μ'' := r_th μ 0) rfl ?_
  refine ca_aload_nr h dX12_candidate_5 rfl ?_
  refine ca_iload_n h dX12_candidate_6 rfl ?_
  refine ca_vi h hG ml_X12_170 (c_X12_isMobile hs) (ci := 12) rfl rfl rfl (hs.1 _ _ _ ⟨rfl, rfl⟩) rfl rfl rfl rfl ⟨Nat.le_refl _, Nat.le_refl _⟩ rfl dX12_candidate_7 ?_
  refine ca_if_eq (tgt := 17) h dX12_candidate_10 (by decide) (fun c_10 => ?_) (fun c_10 => ?_)
  · exact absurd ((r_isM hN _).mpr ⟨m, hm, rfl⟩) (by have z := of_decide_eq_false (bI_0.mp c_10); rw [r_th_0] at z; exact z)
  ·
    refine ca_iload_n h dX12_candidate_13 rfl ?_
    refine ca_if_ge (tgt := 23) h dX12_candidate_14 (by decide) (fun c_14 => ?_) (fun c_14 => ?_)
    ·
      refine ca_aload_nr h dX12_candidate_23 rfl ?_
      refine ca_iload_n h dX12_candidate_24 rfl ?_
      refine ca_vi h hG ml_X12_135 (c_X12_talks hs hm12) (ci := 12) rfl rfl rfl (hs.1 _ _ _ ⟨rfl, rfl⟩) rfl rfl rfl rfl ⟨Nat.le_refl _, Nat.le_refl _⟩ rfl dX12_candidate_25 ?_
      refine ca_if_ne (tgt := 33) h dX12_candidate_28 (by decide) (fun c_28 => ?_) (fun c_28 => ?_)
      ·
        refine ca_aload_nr h dX12_candidate_33 rfl ?_
        refine ca_iload_n h dX12_candidate_34 rfl ?_
        refine ca_vXv h hG ml_X12_217 (c_X12_rank hs (n := n) (q := q) (by rw [r_th_23]; exact hN) hm (by have z := of_decide_eq_true (bI_n0.mp c_28); rw [r_th_0, r_f hN hm (f := 4) (by decide)] at z; exact z)) (ci := 12) rfl rfl rfl (hs.1 _ _ _ ⟨rfl, rfl⟩) rfl rfl rfl rfl ⟨Nat.le_refl _, Nat.le_refl _⟩ rfl dX12_candidate_35 ?_
        intro μ9 hμ9
        obtain ⟨a, b, x9, rfl, t, htc, e17, ex, hall⟩ := hμ9
        refine ca_iload_n h dX12_candidate_38 rfl ?_
        refine ca_aload_nr h dX12_candidate_39 rfl ?_
        refine gi_X12_207 h (hs.1 _ _ _ ⟨rfl, rfl⟩) dX12_candidate_40 ?_
        refine ca_top (show _ = nI t by rw [up_s, r_pq_x, ex]) ?_
        refine ca_icmp_ge (tgt := 55) h dX12_candidate_43 (by decide) (fun c_43 => ?_) (fun c_43 => ?_)
        ·
          refine ca_iconst h dX12_candidate_55 ik_m1 ?_
          refine ca_ireturn h hR rfl dX12_candidate_56 ?_
          refine ⟨?_, rfl, r_A_wqt hJ⟩
          unfold k_car
          rw [if_neg h0, e17, if_neg c_43]
        ·
          refine ca_aload_nr h dX12_candidate_46 rfl ?_
          refine gs_X12_25 h hs ⟨rfl, rfl⟩ dX12_candidate_47 ?_
          refine ca_iload_n h dX12_candidate_50 rfl ?_
          have hix : vp_in x 8 := by
            obtain ⟨i, hi, rfl⟩ := nI_of h0
            have hit : i < t := (nI_ltI (by omega) (by omega)).mp c_43
            exact vp_in_nI (by omega) (by decide)
          refine ca_iald h rfl (hs.1 _ _ _ ⟨rfl, rfl⟩) hix dX12_candidate_51 ?_
          refine ca_goto (tgt := 56) h dX12_candidate_52 (by decide) ?_
          refine ca_ireturn h hR rfl dX12_candidate_56 ?_
          refine ⟨?_, rfl, r_A_wqt hJ⟩
          unfold k_car
          obtain ⟨i, hi, rfl⟩ := nI_of h0
          have hit : i < t := (nI_ltI (by omega) (by omega)).mp c_43
          rw [if_neg h0, e17, if_pos c_43, if_pos (show nI i < 8 from nI_lt (b := 8) (by omega) (by decide)), nI_clamp (by omega), up_s, r_pq_a, (hall i hit).1]
      ·
        refine ca_iconst h dX12_candidate_31 ik_m1 ?_
        refine ca_ireturn h hR rfl dX12_candidate_32 ?_
        have ht : ¬ n 3 m 4 = 1 := by have z := of_decide_eq_false (bI_0.mp c_28); rw [r_th_0, r_f hN hm (f := 4) (by decide)] at z; exact z
        have hp := (hN.2.2.2.2.1 m hm).2.2.2.2.2.2.1 ht
        refine ⟨?_, rfl, nw (μ 16) 22 0 6 0, rfl, by rw [nw_at, if_pos ⟨rfl, rfl, rfl⟩], r_J_th hJ⟩
        have e1 : k_avg n m (n 3 m 5) = -1 := by rw [hp.1]; rfl
        unfold k_car k_rank
        rw [if_pos e1, if_neg h0]
        have e17 : nw (nw q 17 0 0 0) 17 0 1 0 17 0 0 = 0 := by rw [nw_at, if_neg (by omega), nw_at, if_pos ⟨rfl, rfl, rfl⟩]
        rw [e17, if_neg h0]
    · exact absurd c_14 h0
set_option maxHeartbeats 100000 in
theorem c_X12_candidateN {l : Launch} {E : ch_E} {S : ch_S} {μ : ch_M} (hs : ch_Std E S) {n : ch_N} (hN : r_N n (μ 16 23 0)) {x y : Int32} (hx : ¬ ((∃ m, m < k_mc n ∧ x = nI m) ∧ ¬ y < 0)) : ch_C E l yX12_candidate cX12_candidate 3 (some FieldType.int) 6 0 0 S μ [.ref (S.1 16 22 0), .int x, .int y] (ch_F (some (.int (0))) S (r_th μ 1)) := by
  refine ch_enter rfl rfl ?_
  intro X hl0 h hG hR hnm
  have h : ch_H X E RX12 cX12_candidate 3 := h
  show ch_W X E 3 S μ 0 0 0 [(0, .ref (S.1 16 22 0)), (1, .int x), (2, .int y)] []
  refine ca_aload_nr h dX12_candidate_0 rfl ?_
  refine ca_iconst h dX12_candidate_1 ik_0 ?_
  refine pi_X12_70 h (hs.1 _ _ _ ⟨rfl, rfl⟩) dX12_candidate_2 ?_
  refine ca_mem (μ'' := r_th μ 0) rfl ?_
  refine ca_aload_nr h dX12_candidate_5 rfl ?_
  refine ca_iload_n h dX12_candidate_6 rfl ?_
  refine ca_vi h hG ml_X12_170 (c_X12_isMobile hs) (ci := 12) rfl rfl rfl (hs.1 _ _ _ ⟨rfl, rfl⟩) rfl rfl rfl rfl ⟨Nat.le_refl _, Nat.le_refl _⟩ rfl dX12_candidate_7 ?_
  refine ca_if_eq (tgt := 17) h dX12_candidate_10 (by decide) (fun c_10 => ?_) (fun c_10 => ?_)
  ·
    refine ca_aload_nr h dX12_candidate_17 rfl ?_
    refine ca_iconst h dX12_candidate_18 ik_1 ?_
    refine ca_vi h hG ml_X12_108 (c_X12_raise hs) (ci := 12) rfl rfl rfl (hs.1 _ _ _ ⟨rfl, rfl⟩) rfl rfl rfl rfl ⟨Nat.le_refl _, Nat.le_refl _⟩ rfl dX12_candidate_19 ?_
    refine ca_ireturn h hR rfl dX12_candidate_22 ?_
    exact ⟨rfl, rfl, by rw [r_th_th]⟩
  ·
    refine ca_iload_n h dX12_candidate_13 rfl ?_
    refine ca_if_ge (tgt := 23) h dX12_candidate_14 (by decide) (fun c_14 => ?_) (fun c_14 => ?_)
    ·
      exact absurd ⟨(r_isM hN _).mp (by have z := of_decide_eq_true (bI_n0.mp c_10); rw [r_th_0] at z; exact z), c_14⟩ hx
    ·
      refine ca_aload_nr h dX12_candidate_17 rfl ?_
      refine ca_iconst h dX12_candidate_18 ik_1 ?_
      refine ca_vi h hG ml_X12_108 (c_X12_raise hs) (ci := 12) rfl rfl rfl (hs.1 _ _ _ ⟨rfl, rfl⟩) rfl rfl rfl rfl ⟨Nat.le_refl _, Nat.le_refl _⟩ rfl dX12_candidate_19 ?_
      refine ca_ireturn h hR rfl dX12_candidate_22 ?_
      exact ⟨rfl, rfl, by rw [r_th_th]⟩
theorem t_kd1 (x : Int32) : t_kd x = 1 ↔ ¬ x < 97 ∧ ¬ 122 < x := by
  unfold t_kd
  by_cases h0 : x = -1
  · rw [if_pos h0, h0]; exact ⟨fun z => absurd z (by decide), fun z => absurd (show (-1 : Int32) < 97 by decide) z.1⟩
  · rw [if_neg h0]
    by_cases h1 : ¬ x < 97 ∧ ¬ 122 < x
    · rw [if_pos h1]; exact ⟨fun _ => h1, fun _ => rfl⟩
    · rw [if_neg h1]
      refine ⟨fun z => ?_, fun z => absurd z h1⟩
      split at z
      · exact absurd z (by decide)
      · split at z
        · exact absurd z (by decide)
        · split at z
          · exact absurd z (by decide)
          · exact absurd z (by decide)
theorem t_kd2 (x : Int32) : t_kd x = 2 ↔ ¬ x < 48 ∧ ¬ 57 < x := by
  unfold t_kd
  by_cases h0 : x = -1
  · rw [if_pos h0, h0]; exact ⟨fun z => absurd z (by decide), fun z => absurd (show (-1 : Int32) < 48 by decide) z.1⟩
  · rw [if_neg h0]
    by_cases h1 : ¬ x < 97 ∧ ¬ 122 < x
    · rw [if_pos h1]
      refine ⟨fun z => absurd z (by decide), fun z => ?_⟩
      exfalso
      have e1 := Int32.not_lt.mp h1.1
      have e2 := Int32.not_lt.mp z.2
      have := Int32.le_trans e1 e2
      exact absurd this (by decide)
    · rw [if_neg h1]
      by_cases h2 : ¬ x < 48 ∧ ¬ 57 < x
      · rw [if_pos h2]; exact ⟨fun _ => h2, fun _ => rfl⟩
      · rw [if_neg h2]
        refine ⟨fun z => ?_, fun z => absurd z h2⟩
        split at z
        · exact absurd z (by decide)
        · split at z
          · exact absurd z (by decide)
          · exact absurd z (by decide)
theorem t_kd3 (x : Int32) : t_kd x = 3 ↔ x = 32 ∨ x = 10 := by
  constructor
  · intro h
    unfold t_kd at h
    split at h
    · exact absurd h (by decide)
    · split at h
      · exact absurd h (by decide)
      · split at h
        · exact absurd h (by decide)
        · split at h
          · exact Or.inl (by assumption)
          · split at h
            · exact Or.inr (by assumption)
            · exact absurd h (by decide)
  · rintro (rfl | rfl) <;> decide
theorem t_kd0 (x : Int32) : t_kd x = 0 ↔ x = -1 := by
  constructor
  · intro h
    unfold t_kd at h
    split at h
    · assumption
    · split at h
      · exact absurd h (by decide)
      · split at h
        · exact absurd h (by decide)
        · split at h
          · exact absurd h (by decide)
          · split at h
            · exact absurd h (by decide)
            · exact absurd h (by decide)
  · rintro rfl; decide
theorem t_kd4 (x : Int32) : t_kd x = 0 ∨ t_kd x = 1 ∨ t_kd x = 2 ∨ t_kd x = 3 ∨ t_kd x = 4 := by
  unfold t_kd
  split
  · exact Or.inl rfl
  · split
    · exact Or.inr (Or.inl rfl)
    · split
      · exact Or.inr (Or.inr (Or.inl rfl))
      · split
        · exact Or.inr (Or.inr (Or.inr (Or.inl rfl)))
        · split
          · exact Or.inr (Or.inr (Or.inr (Or.inl rfl)))
          · exact Or.inr (Or.inr (Or.inr (Or.inr rfl)))
def r_tok (k : Int32) : Int32 := if k = 4 then 3 else k
def r_n2 (p : ch_N) (s i : Nat) : ch_N := nw (nw p 22 0 15 (nI s)) 22 0 14 (nI i)
def r_ts (p : ch_N) (s n : Nat) (k : Int32) : ch_N := nw (r_n2 p s n) 22 0 16 k
theorem nw_cm {n : ch_N} {kd i j j' : Nat} {v v' : Int32} (h : j ≠ j') : nw (nw n kd i j v) kd i j' v' = nw (nw n kd i j' v') kd i j v := by
  funext a b c
  simp only [nw_at]
  by_cases h1 : a = kd ∧ b = i ∧ c = j'
  · rw [if_pos h1, if_neg (fun z => h (z.2.2.symm.trans h1.2.2)), if_pos h1]
  · rw [if_neg h1]
    by_cases h2 : a = kd ∧ b = i ∧ c = j
    · rw [if_pos h2, if_pos h2]
    · rw [if_neg h2, if_neg h2, if_neg h1]
theorem r_n2_s (p : ch_N) (s i j : Nat) : nw (r_n2 p s i) 22 0 14 (nI j) = r_n2 p s j := nw_nw _ _ _ _ _ _
theorem r_n2_14 (p : ch_N) (s i : Nat) : (r_n2 p s i) 22 0 14 = nI i := by unfold r_n2; rw [nw_at, if_pos ⟨rfl, rfl, rfl⟩]
theorem r_n2_k (p : ch_N) (s i : Nat) {kd : Nat} (h : kd ≠ 22) : (r_n2 p s i) kd = p kd := by unfold r_n2; rw [nw_k h, nw_k h]
theorem r_n2_o (p : ch_N) (s i : Nat) {j : Nat} (h : j ≠ 14) (h2 : j ≠ 15) : (r_n2 p s i) 22 0 j = p 22 0 j := by unfold r_n2; rw [nw_at, if_neg (fun z => h z.2.2), nw_at, if_neg (fun z => h2 z.2.2)]
theorem t_at_e (b : Nat → Int32) {e i : Nat} (h : e ≤ i) : t_at b e i = -1 := by unfold t_at; rw [if_neg (by omega)]
theorem t_rn_s {b : Nat → Int32} {e : Nat} {k : Int32} {j i : Nat} : t_rn b e k (j + 1) i = if t_k b e i = k then t_rn b e k j (i + 1) else i := rfl
set_option maxHeartbeats 100000 in
theorem c_X12_byteAt {l : Launch} {E : ch_E} {S : ch_S} {μ : ch_M} (hs : ch_Std E S) {e : Nat} (he : μ 16 22 0 13 = nI e) (h7 : e ≤ 700) {i : Nat} (hi : i < 2 ^ 31) : ch_C E l yX12_byteAt cX12_byteAt 2 (some FieldType.int) 1 0 0 S μ [.ref (S.1 16 22 0), .int (nI i)] (ch_F (some (.int (t_at (μ 16 30 0) e i))) S (μ)) := by
  refine ch_enter rfl rfl ?_
  intro X hl0 h hG hR hnm
  have h : ch_H X E RX12 cX12_byteAt 2 := h
  show ch_W X E 2 S μ 0 0 0 [(0, .ref (S.1 16 22 0)), (1, .int (nI i))] []
  refine ca_iload_n h dX12_byteAt_0 rfl ?_
  refine ca_aload_nr h dX12_byteAt_1 rfl ?_
  refine gi_X12_280 h (hs.1 _ _ _ ⟨rfl, rfl⟩) dX12_byteAt_2 ?_
  rw [he]
  refine ca_icmp_ge (tgt := 17) h dX12_byteAt_5 (by decide) (fun c_5 => ?_) (fun c_5 => ?_)
  ·
    refine ca_iconst h dX12_byteAt_17 ik_m1 ?_
    refine ca_ireturn h hR rfl dX12_byteAt_18 ?_
    exact ⟨by unfold t_at; rw [if_neg (fun z => c_5 (nI_lt z (by omega)))], rfl, rfl⟩
  ·
    have hlt : i < e := (nI_ltI hi (by omega)).mp c_5
    refine ca_aload_nr h dX12_byteAt_8 rfl ?_
    refine gs_X12_31 h hs ⟨rfl, rfl⟩ dX12_byteAt_9 ?_
    refine ca_iload_n h dX12_byteAt_12 rfl ?_
    refine ca_iald h rfl (hs.1 _ _ _ ⟨rfl, rfl⟩) (vp_in_nI (by omega) (by decide)) dX12_byteAt_13 ?_
    refine ca_goto (tgt := 18) h dX12_byteAt_14 (by decide) ?_
    refine ca_ireturn h hR rfl dX12_byteAt_18 ?_
    exact ⟨by unfold t_at; rw [if_pos hlt, nI_clamp (by omega)], rfl, rfl⟩
set_option maxHeartbeats 100000 in
theorem c_X12_isLetter {l : Launch} {E : ch_E} {S : ch_S} {μ : ch_M} (hs : ch_Std E S) {e : Nat} (he : μ 16 22 0 13 = nI e) (h7 : e ≤ 700) {i : Nat} (hi : i < 2 ^ 31) : ch_C E l yX12_isLetter cX12_isLetter 2 (some FieldType.boolean) 2 0 0 S μ [.ref (S.1 16 22 0), .int (nI i)] (ch_F (some (.int (bI (decide (t_k (μ 16 30 0) e i = 1))))) S (μ)) := by
  refine ch_enter rfl rfl ?_
  intro X hl0 h hG hR hnm
  have h : ch_H X E RX12 cX12_isLetter 2 := h
  show ch_W X E 2 S μ 0 0 0 [(0, .ref (S.1 16 22 0)), (1, .int (nI i))] []
  refine ca_aload_nr h dX12_isLetter_0 rfl ?_
  refine ca_iload_n h dX12_isLetter_1 rfl ?_
  refine ca_vi h hG ml_X12_283 (c_X12_byteAt hs he h7 (by omega)) (ci := 12) rfl rfl rfl (hs.1 _ _ _ ⟨rfl, rfl⟩) rfl rfl rfl rfl ⟨Nat.le_refl _, Nat.le_refl _⟩ rfl dX12_isLetter_2 ?_
  refine ca_bipush h dX12_isLetter_5 bk_97 ?_
  refine ca_icmp_lt (tgt := 24) h dX12_isLetter_7 (by decide) (fun c_7 => ?_) (fun c_7 => ?_)
  ·
    refine ca_iconst h dX12_isLetter_24 ik_0 ?_
    refine ca_ireturn h hR rfl dX12_isLetter_25 ?_
    exact ⟨by unfold t_k; rw [decide_eq_false (fun z => ((t_kd1 _).mp z).1 c_7)]; rfl, rfl, rfl⟩
  ·
    refine ca_aload_nr h dX12_isLetter_10 rfl ?_
    refine ca_iload_n h dX12_isLetter_11 rfl ?_
    refine ca_vi h hG ml_X12_283 (c_X12_byteAt hs he h7 (by omega)) (ci := 12) rfl rfl rfl (hs.1 _ _ _ ⟨rfl, rfl⟩) rfl rfl rfl rfl ⟨Nat.le_refl _, Nat.le_refl _⟩ rfl dX12_isLetter_12 ?_
    refine ca_bipush h dX12_isLetter_15 bk_122 ?_
    refine ca_icmp_gt (tgt := 24) h dX12_isLetter_17 (by decide) (fun c_17 => ?_) (fun c_17 => ?_)
    ·
      refine ca_iconst h dX12_isLetter_24 ik_0 ?_
      refine ca_ireturn h hR rfl dX12_isLetter_25 ?_
      exact ⟨by unfold t_k; rw [decide_eq_false (fun z => ((t_kd1 _).mp z).2 c_17)]; rfl, rfl, rfl⟩
    ·
      refine ca_iconst h dX12_isLetter_20 ik_1 ?_
      refine ca_goto (tgt := 25) h dX12_isLetter_21 (by decide) ?_
      refine ca_ireturn h hR rfl dX12_isLetter_25 ?_
      exact ⟨by unfold t_k; rw [decide_eq_true ((t_kd1 _).mpr ⟨c_7, c_17⟩)]; rfl, rfl, rfl⟩
set_option maxHeartbeats 100000 in
theorem c_X12_isDigit {l : Launch} {E : ch_E} {S : ch_S} {μ : ch_M} (hs : ch_Std E S) {e : Nat} (he : μ 16 22 0 13 = nI e) (h7 : e ≤ 700) {i : Nat} (hi : i < 2 ^ 31) : ch_C E l yX12_isDigit cX12_isDigit 2 (some FieldType.boolean) 2 0 0 S μ [.ref (S.1 16 22 0), .int (nI i)] (ch_F (some (.int (bI (decide (t_k (μ 16 30 0) e i = 2))))) S (μ)) := by
  refine ch_enter rfl rfl ?_
  intro X hl0 h hG hR hnm
  have h : ch_H X E RX12 cX12_isDigit 2 := h
  show ch_W X E 2 S μ 0 0 0 [(0, .ref (S.1 16 22 0)), (1, .int (nI i))] []
  refine ca_aload_nr h dX12_isDigit_0 rfl ?_
  refine ca_iload_n h dX12_isDigit_1 rfl ?_
  refine ca_vi h hG ml_X12_283 (c_X12_byteAt hs he h7 (by omega)) (ci := 12) rfl rfl rfl (hs.1 _ _ _ ⟨rfl, rfl⟩) rfl rfl rfl rfl ⟨Nat.le_refl _, Nat.le_refl _⟩ rfl dX12_isDigit_2 ?_
  refine ca_bipush h dX12_isDigit_5 bk_48 ?_
  refine ca_icmp_lt (tgt := 24) h dX12_isDigit_7 (by decide) (fun c_7 => ?_) (fun c_7 => ?_)
  ·
    refine ca_iconst h dX12_isDigit_24 ik_0 ?_
    refine ca_ireturn h hR rfl dX12_isDigit_25 ?_
    exact ⟨by unfold t_k; rw [decide_eq_false (fun z => ((t_kd2 _).mp z).1 c_7)]; rfl, rfl, rfl⟩
  ·
    refine ca_aload_nr h dX12_isDigit_10 rfl ?_
    refine ca_iload_n h dX12_isDigit_11 rfl ?_
    refine ca_vi h hG ml_X12_283 (c_X12_byteAt hs he h7 (by omega)) (ci := 12) rfl rfl rfl (hs.1 _ _ _ ⟨rfl, rfl⟩) rfl rfl rfl rfl ⟨Nat.le_refl _, Nat.le_refl _⟩ rfl dX12_isDigit_12 ?_
    refine ca_bipush h dX12_isDigit_15 bk_57 ?_
    refine ca_icmp_gt (tgt := 24) h dX12_isDigit_17 (by decide) (fun c_17 => ?_) (fun c_17 => ?_)
    ·
      refine ca_iconst h dX12_isDigit_24 ik_0 ?_
      refine ca_ireturn h hR rfl dX12_isDigit_25 ?_
      exact ⟨by unfold t_k; rw [decide_eq_false (fun z => ((t_kd2 _).mp z).2 c_17)]; rfl, rfl, rfl⟩
    ·
      refine ca_iconst h dX12_isDigit_20 ik_1 ?_
      refine ca_goto (tgt := 25) h dX12_isDigit_21 (by decide) ?_
      refine ca_ireturn h hR rfl dX12_isDigit_25 ?_
      exact ⟨by unfold t_k; rw [decide_eq_true ((t_kd2 _).mpr ⟨c_7, c_17⟩)]; rfl, rfl, rfl⟩
