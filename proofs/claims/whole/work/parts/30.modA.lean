/-! THE REFERENCE: a row w of 1302 numbers; how it holds a network n -/
def r_R (n : ch_N) (w : Nat → Int32) : Prop :=
  (¬ w 1 < 0 ∧ Int32.toNatClampNeg (w 1) ≤ 24) ∧
  (∀ r, r < Int32.toNatClampNeg (w 1) → ∃ a b, a < k_cc n ∧ b < k_cc n ∧ w (90 + 5 * r) = nI a ∧ w (90 + 5 * r + 1) = nI b ∧ n 2 (8 * a + b) 0 = 1 ∧ w (90 + 5 * r + 2) = n 2 (8 * a + b) 1 ∧ w (90 + 5 * r + 3) = n 2 (8 * a + b) 2 ∧ w (90 + 5 * r + 4) = n 2 (8 * a + b) 3) ∧
  (∀ r t, r < Int32.toNatClampNeg (w 1) → t < Int32.toNatClampNeg (w 1) → w (90 + 5 * r) = w (90 + 5 * t) → w (90 + 5 * r + 1) = w (90 + 5 * t + 1) → r = t) ∧
  (∀ a b, a < 8 → b < 8 → ¬ n 2 (8 * a + b) 0 = 0 → ∃ r, r < Int32.toNatClampNeg (w 1) ∧ w (90 + 5 * r) = nI a ∧ w (90 + 5 * r + 1) = nI b) ∧
  (∀ a b, a < 8 → b < 8 → n 2 (8 * a + b) 0 = 0 → n 2 (8 * a + b) 2 = 0 ∧ n 2 (8 * a + b) 3 = 0)
def r_M (n : ch_N) (w : Nat → Int32) (m : Nat) : Prop :=
  (∀ f, f < 7 → w (210 + 91 * m + f) = n 3 m f) ∧ w (210 + 91 * m + 8) = n 3 m 8 ∧
  (n 3 m 4 = 1 → w (210 + 91 * m + 7) = n 3 m 7 ∧ ∀ c, c < 8 → w (210 + 91 * m + (11 + c)) = n 6 m c ∧ w (210 + 91 * m + (19 + c)) = n 5 m c ∧ ∀ k, k < Int32.toNatClampNeg (n 5 m c) → w (210 + 91 * m + (27 + 8 * c + k)) = n 4 m (8 * c + k)) ∧
  (¬ n 3 m 8 = -1 → w (210 + 91 * m + 10) = n 3 m 9 ∧ w (210 + 91 * m + 9) = if n 3 m 4 = 1 then 0 else 1) ∧
  (n 3 m 4 = 0 ∨ n 3 m 4 = 1 ∨ n 3 m 4 = 2) ∧ (n 3 m 4 = 1 → ∃ s, s < k_cc n ∧ n 3 m 5 = nI s) ∧ (¬ n 3 m 4 = 1 → n 3 m 5 = -1 ∧ ∀ c, c < 8 → n 5 m c = 0 ∧ n 6 m c = -1) ∧
  (n 3 m 4 = 0 → n 3 m 8 = -1) ∧ (n 3 m 4 = 2 → ¬ n 3 m 8 = -1) ∧ (n 3 m 8 = -1 ∨ ∃ c, c < k_cc n ∧ n 3 m 8 = nI c) ∧ (¬ n 3 m 4 = 0 → 0 < n 3 m 6) ∧
  (n 3 m 4 = 1 → ∀ c, c < 8 → n 3 m 8 = nI c → ¬ n 2 (k_rx (n 3 m 5) (nI c)) 0 = 0) ∧
  (¬ n 3 m 0 < 0 ∧ ¬ 999 < n 3 m 0 ∧ ¬ n 3 m 1 < 0 ∧ ¬ 999 < n 3 m 1) ∧ (n 3 m 4 = 1 → ∀ c k, c < 8 → k < Int32.toNatClampNeg (n 5 m c) → ¬ n 4 m (8 * c + k) < 0 ∧ ¬ 99 < n 4 m (8 * c + k))
/-- bounds that a network keeps -/
def r_K (n : ch_N) : Prop := (¬ n 0 0 3 < 0 ∧ ¬ 100000 < n 0 0 3 ∧ 0 < n 0 0 5 ∧ ¬ n 0 0 0 < 0 ∧ ¬ n 0 0 2 < 0) ∧ ∀ c, c < k_cc n → ¬ n 1 c 0 < 0 ∧ ¬ 999 < n 1 c 0 ∧ ¬ n 1 c 1 < 0 ∧ ¬ 999 < n 1 c 1 ∧ ¬ n 1 c 2 < 0 ∧ ¬ 99 < n 1 c 2 ∧ ¬ n 1 c 3 < 0 ∧ ¬ 50 < n 1 c 3
def r_N (n : ch_N) (w : Nat → Int32) : Prop :=
  (∀ j, j < 10 → w j = n 0 0 j) ∧ ((∀ t, t < 8 → w (10 + t) = n 7 0 t) ∧ r_K n) ∧ (∀ c f, c < k_cc n → f < 9 → w (18 + 9 * c + f) = n 1 c f) ∧ r_R n w ∧ (∀ m, m < k_mc n → r_M n w m) ∧ k_wf n
def r_ro (w : Nat → Int32) (a b : Int32) : Int32 := kq (fun r => decide (w (90 + 5 * r) = a ∧ w (90 + 5 * r + 1) = b)) (Int32.toNatClampNeg (w 1)) (Int32.toNatClampNeg (w 1))
theorem r_cc {n : ch_N} {w : Nat → Int32} (h : r_N n w) : k_cc n = Int32.toNatClampNeg (w 0) := by unfold k_cc; rw [h.1 0 (by decide)]
theorem r_mc {n : ch_N} {w : Nat → Int32} (h : r_N n w) : k_mc n = Int32.toNatClampNeg (w 2) := by unfold k_mc; rw [h.1 2 (by decide)]
theorem ix_c (c f : Nat) : 18 + 9 * nI c + nI f = nI (18 + 9 * c + f) := by rw [show (18 : Int32) = nI 18 from rfl, show (9 : Int32) = nI 9 from rfl, pk_mul, nI_add, nI_add]
theorem ix_r (c f : Nat) : 90 + 5 * nI c + nI f = nI (90 + 5 * c + f) := by rw [show (90 : Int32) = nI 90 from rfl, show (5 : Int32) = nI 5 from rfl, pk_mul, nI_add, nI_add]
theorem ix_m (c f : Nat) : 210 + 91 * nI c + nI f = nI (210 + 91 * c + f) := by rw [show (210 : Int32) = nI 210 from rfl, show (91 : Int32) = nI 91 from rfl, pk_mul, nI_add, nI_add]
theorem k_abs_sub (a b : Int32) : k_abs (a - b) = k_abs (b - a) := by
  have e : b - a = 0 - (a - b) := by
    apply Int32.toBitVec_inj.mp
    simp
  rw [e]
  generalize a - b = z
  unfold k_abs
  have hz : (0 - z).toInt = (-z.toInt).bmod (2 ^ 32) := by rw [Int32.toInt_sub]; simp
  have h1 := z.toInt_lt
  have h2 := z.le_toInt
  by_cases h : (0 : Int32) ≤ z
  · rw [if_pos h]
    have h0 : 0 ≤ z.toInt := by simpa using Int32.le_iff_toInt_le.mp h
    by_cases h3 : (0 : Int32) ≤ 0 - z
    · have h4 : (0 : Int) ≤ (0 - z).toInt := by simpa using Int32.le_iff_toInt_le.mp h3
      rw [hz] at h4
      have h5 : z.toInt = 0 := by
        have : (-z.toInt).bmod (2 ^ 32) = -z.toInt := Int.bmod_eq_of_le (by omega) (by omega)
        omega
      have h6 : z = 0 := Int32.toInt_inj.mp (by rw [h5]; decide)
      rw [h6]; decide
    · rw [if_neg h3]
      apply Int32.toBitVec_inj.mp
      simp
  · rw [if_neg h]
    by_cases h3 : (0 : Int32) ≤ 0 - z
    · rw [if_pos h3]
    · rw [if_neg h3]
      have h4 : z.toInt < 0 := by
        have := Int32.not_le.mp h
        simpa using Int32.lt_iff_toInt_lt.mp this
      have h7 : (0 - z).toInt < 0 := by
        have := Int32.not_le.mp h3
        simpa using Int32.lt_iff_toInt_lt.mp this
      rw [hz] at h7
      have h8 : z.toInt = -2 ^ 31 := by
        by_cases g : -2 ^ 31 < z.toInt
        · have : (-z.toInt).bmod (2 ^ 32) = -z.toInt := Int.bmod_eq_of_le (by omega) (by omega)
          omega
        · omega
      have h6 : z = -2147483648 := Int32.toInt_inj.mp (by rw [h8]; decide)
      rw [h6]; decide
theorem al_1302 : Int32.ofNat 1302 = 1302 := by decide
set_option maxHeartbeats 100000 in
theorem c_X12_inRange {l : Launch} {E : ch_E} {S : ch_S} {μ : ch_M} {x lo hi : Int32} : ch_C E l yX12_inRange cX12_inRange 3 (some FieldType.boolean) 1 0 0 S μ [.int x, .int lo, .int hi] (ch_F (some (.int (bI (decide (¬ x < lo ∧ ¬ hi < x))))) S (μ)) := by
  refine ch_enter rfl rfl ?_
  intro X hl0 h hG hR hnm
  have h : ch_H X E RX12 cX12_inRange 3 := h
  show ch_W X E 3 S μ 0 0 0 [(0, .int x), (1, .int lo), (2, .int hi)] []
  refine ca_iload_n h dX12_inRange_0 rfl ?_
  refine ca_iload_n h dX12_inRange_1 rfl ?_
  refine ca_icmp_lt (tgt := 14) h dX12_inRange_2 (by decide) (fun c_2 => ?_) (fun c_2 => ?_)
  ·
    refine ca_iconst h dX12_inRange_14 ik_0 ?_
    refine ca_ireturn h hR rfl dX12_inRange_15 ?_
    exact ⟨by simp [bI, c_2, -Int32.not_lt], rfl, rfl⟩
  ·
    refine ca_iload_n h dX12_inRange_5 rfl ?_
    refine ca_iload_n h dX12_inRange_6 rfl ?_
    refine ca_icmp_gt (tgt := 14) h dX12_inRange_7 (by decide) (fun c_7 => ?_) (fun c_7 => ?_)
    ·
      refine ca_iconst h dX12_inRange_14 ik_0 ?_
      refine ca_ireturn h hR rfl dX12_inRange_15 ?_
      exact ⟨by simp [bI, c_2, c_7, -Int32.not_lt], rfl, rfl⟩
    ·
      refine ca_iconst h dX12_inRange_10 ik_1 ?_
      refine ca_goto (tgt := 15) h dX12_inRange_11 (by decide) ?_
      refine ca_ireturn h hR rfl dX12_inRange_15 ?_
      exact ⟨by simp [bI, c_2, c_7, -Int32.not_lt], rfl, rfl⟩
set_option maxHeartbeats 100000 in
theorem c_X12_ofCell {l : Launch} {E : ch_E} {S : ch_S} {μ : ch_M} (hs : ch_Std E S) {c f : Nat} (hc : c < 8) (hf : f < 9) : ch_C E l yX12_ofCell cX12_ofCell 3 (some FieldType.int) 1 0 0 S μ [.ref (S.1 16 22 0), .int (nI c), .int (nI f)] (ch_F (some (.int (μ 16 23 0 (18 + 9 * c + f)))) S (μ)) := by
  refine ch_enter rfl rfl ?_
  intro X hl0 h hG hR hnm
  have h : ch_H X E RX12 cX12_ofCell 3 := h
  show ch_W X E 3 S μ 0 0 0 [(0, .ref (S.1 16 22 0)), (1, .int (nI c)), (2, .int (nI f))] []
  refine ca_aload_nr h dX12_ofCell_0 rfl ?_
  refine gs_X12_9 h hs ⟨rfl, rfl⟩ dX12_ofCell_1 ?_
  refine ca_bipush h dX12_ofCell_4 bk_18 ?_
  refine ca_bipush h dX12_ofCell_6 bk_9 ?_
  refine ca_iload_n h dX12_ofCell_8 rfl ?_
  refine ca_imul h dX12_ofCell_9 ?_
  refine ca_iadd h dX12_ofCell_10 ?_
  refine ca_iload_n h dX12_ofCell_11 rfl ?_
  refine ca_iadd h dX12_ofCell_12 ?_
  refine ca_top (ix_c c f) ?_
  refine ca_iald h rfl (hs.1 _ _ _ ⟨rfl, rfl⟩) (vp_in_nI (by omega) (by decide)) dX12_ofCell_13 ?_
  refine ca_ireturn h hR rfl dX12_ofCell_14 ?_
  exact ⟨by rw [nI_clamp (by omega)], rfl, rfl⟩
set_option maxHeartbeats 100000 in
theorem c_X12_ofRelation {l : Launch} {E : ch_E} {S : ch_S} {μ : ch_M} (hs : ch_Std E S) {r f : Nat} (hr : r < 24) (hf : f < 5) : ch_C E l yX12_ofRelation cX12_ofRelation 3 (some FieldType.int) 1 0 0 S μ [.ref (S.1 16 22 0), .int (nI r), .int (nI f)] (ch_F (some (.int (μ 16 23 0 (90 + 5 * r + f)))) S (μ)) := by
  refine ch_enter rfl rfl ?_
  intro X hl0 h hG hR hnm
  have h : ch_H X E RX12 cX12_ofRelation 3 := h
  show ch_W X E 3 S μ 0 0 0 [(0, .ref (S.1 16 22 0)), (1, .int (nI r)), (2, .int (nI f))] []
  refine ca_aload_nr h dX12_ofRelation_0 rfl ?_
  refine gs_X12_9 h hs ⟨rfl, rfl⟩ dX12_ofRelation_1 ?_
  refine ca_bipush h dX12_ofRelation_4 bk_90 ?_
  refine ca_iconst h dX12_ofRelation_6 ik_5 ?_
  refine ca_iload_n h dX12_ofRelation_7 rfl ?_
  refine ca_imul h dX12_ofRelation_8 ?_
  refine ca_iadd h dX12_ofRelation_9 ?_
  refine ca_iload_n h dX12_ofRelation_10 rfl ?_
  refine ca_iadd h dX12_ofRelation_11 ?_
  refine ca_top (ix_r r f) ?_
  refine ca_iald h rfl (hs.1 _ _ _ ⟨rfl, rfl⟩) (vp_in_nI (by omega) (by decide)) dX12_ofRelation_12 ?_
  refine ca_ireturn h hR rfl dX12_ofRelation_13 ?_
  exact ⟨by rw [nI_clamp (by omega)], rfl, rfl⟩
set_option maxHeartbeats 100000 in
theorem c_X12_addToRelation {l : Launch} {E : ch_E} {S : ch_S} {μ : ch_M} (hs : ch_Std E S) {r f : Nat} (hr : r < 24) (hf : f < 5) : ch_C E l yX12_addToRelation cX12_addToRelation 3 none 1 0 0 S μ [.ref (S.1 16 22 0), .int (nI r), .int (nI f)] (ch_F none S (up μ 16 (nw (μ 16) 23 0 (90 + 5 * r + f) (μ 16 23 0 (90 + 5 * r + f) + 1)))) := by
  refine ch_enter rfl rfl ?_
  intro X hl0 h hG hR hnm
  have h : ch_H X E RX12 cX12_addToRelation 3 := h
  show ch_W X E 3 S μ 0 0 0 [(0, .ref (S.1 16 22 0)), (1, .int (nI r)), (2, .int (nI f))] []
  refine ca_aload_nr h dX12_addToRelation_0 rfl ?_
  refine gs_X12_9 h hs ⟨rfl, rfl⟩ dX12_addToRelation_1 ?_
  refine ca_bipush h dX12_addToRelation_4 bk_90 ?_
  refine ca_iconst h dX12_addToRelation_6 ik_5 ?_
  refine ca_iload_n h dX12_addToRelation_7 rfl ?_
  refine ca_imul h dX12_addToRelation_8 ?_
  refine ca_iadd h dX12_addToRelation_9 ?_
  refine ca_iload_n h dX12_addToRelation_10 rfl ?_
  refine ca_iadd h dX12_addToRelation_11 ?_
  refine ca_top (ix_r r f) ?_
  refine ca_dup2 h dX12_addToRelation_12 rfl rfl ?_
  refine ca_iald h rfl (hs.1 _ _ _ ⟨rfl, rfl⟩) (vp_in_nI (by omega) (by decide)) dX12_addToRelation_13 ?_
  refine ca_iconst h dX12_addToRelation_14 ik_1 ?_
  refine ca_iadd h dX12_addToRelation_15 ?_
  refine ca_iast h rfl (hs.1 _ _ _ ⟨rfl, rfl⟩) (vp_in_nI (by omega) (by decide)) dX12_addToRelation_16 ?_
  refine ca_vreturn h hR dX12_addToRelation_17 ?_
  exact ⟨rfl, rfl, by rw [ch_st_nw, nI_clamp (by omega)]⟩
set_option maxHeartbeats 100000 in
theorem c_X12_of {l : Launch} {E : ch_E} {S : ch_S} {μ : ch_M} (hs : ch_Std E S) {m f : Nat} (hm : m < 12) (hf : f < 91) : ch_C E l yX12_of cX12_of 3 (some FieldType.int) 1 0 0 S μ [.ref (S.1 16 22 0), .int (nI m), .int (nI f)] (ch_F (some (.int (μ 16 23 0 (210 + 91 * m + f)))) S (μ)) := by
  refine ch_enter rfl rfl ?_
  intro X hl0 h hG hR hnm
  have h : ch_H X E RX12 cX12_of 3 := h
  show ch_W X E 3 S μ 0 0 0 [(0, .ref (S.1 16 22 0)), (1, .int (nI m)), (2, .int (nI f))] []
  refine ca_aload_nr h dX12_of_0 rfl ?_
  refine gs_X12_9 h hs ⟨rfl, rfl⟩ dX12_of_1 ?_
  refine ca_sipush h dX12_of_4 sk_210 ?_
  refine ca_bipush h dX12_of_7 bk_91 ?_
  refine ca_iload_n h dX12_of_9 rfl ?_
  refine ca_imul h dX12_of_10 ?_
  refine ca_iadd h dX12_of_11 ?_
  refine ca_iload_n h dX12_of_12 rfl ?_
  refine ca_iadd h dX12_of_13 ?_
  refine ca_top (ix_m m f) ?_
  refine ca_iald h rfl (hs.1 _ _ _ ⟨rfl, rfl⟩) (vp_in_nI (by omega) (by decide)) dX12_of_14 ?_
  refine ca_ireturn h hR rfl dX12_of_15 ?_
  exact ⟨by rw [nI_clamp (by omega)], rfl, rfl⟩
set_option maxHeartbeats 100000 in
theorem c_X12_put {l : Launch} {E : ch_E} {S : ch_S} {μ : ch_M} (hs : ch_Std E S) {m f : Nat} (hm : m < 12) (hf : f < 91) {v : Int32} : ch_C E l yX12_put cX12_put 4 none 1 0 0 S μ [.ref (S.1 16 22 0), .int (nI m), .int (nI f), .int v] (ch_F none S (up μ 16 (nw (μ 16) 23 0 (210 + 91 * m + f) v))) := by
  refine ch_enter rfl rfl ?_
  intro X hl0 h hG hR hnm
  have h : ch_H X E RX12 cX12_put 4 := h
  show ch_W X E 4 S μ 0 0 0 [(0, .ref (S.1 16 22 0)), (1, .int (nI m)), (2, .int (nI f)), (3, .int v)] []
  refine ca_aload_nr h dX12_put_0 rfl ?_
  refine gs_X12_9 h hs ⟨rfl, rfl⟩ dX12_put_1 ?_
  refine ca_sipush h dX12_put_4 sk_210 ?_
  refine ca_bipush h dX12_put_7 bk_91 ?_
  refine ca_iload_n h dX12_put_9 rfl ?_
  refine ca_imul h dX12_put_10 ?_
  refine ca_iadd h dX12_put_11 ?_
  refine ca_iload_n h dX12_put_12 rfl ?_
  refine ca_iadd h dX12_put_13 ?_
  refine ca_top (ix_m m f) ?_
  refine ca_iload_n h dX12_put_14 rfl ?_
  refine ca_iast h rfl (hs.1 _ _ _ ⟨rfl, rfl⟩) (vp_in_nI (by omega) (by decide)) dX12_put_15 ?_
  refine ca_vreturn h hR dX12_put_16 ?_
  exact ⟨rfl, rfl, by rw [ch_st_nw, nI_clamp (by omega)]⟩
set_option maxHeartbeats 100000 in
theorem c_X12_isCell {l : Launch} {E : ch_E} {S : ch_S} {μ : ch_M} (hs : ch_Std E S) {x : Int32} : ch_C E l yX12_isCell cX12_isCell 2 (some FieldType.boolean) 2 0 0 S μ [.ref (S.1 16 22 0), .int x] (ch_F (some (.int (bI (decide (¬ x < 0 ∧ ¬ μ 16 23 0 0 - 1 < x))))) S (μ)) := by
  refine ch_enter rfl rfl ?_
  intro X hl0 h hG hR hnm
  have h : ch_H X E RX12 cX12_isCell 2 := h
  show ch_W X E 2 S μ 0 0 0 [(0, .ref (S.1 16 22 0)), (1, .int x)] []
  refine ca_iload_n h dX12_isCell_0 rfl ?_
  refine ca_iconst h dX12_isCell_1 ik_0 ?_
  refine ca_aload_nr h dX12_isCell_2 rfl ?_
  refine gs_X12_9 h hs ⟨rfl, rfl⟩ dX12_isCell_3 ?_
  refine ca_iconst h dX12_isCell_6 ik_0 ?_
  refine ca_iald h rfl (hs.1 _ _ _ ⟨rfl, rfl⟩) (vp_in_nI (n := 0) (N := 1302) (by decide) (by decide)) dX12_isCell_7 ?_
  refine ca_iconst h dX12_isCell_8 ik_1 ?_
  refine ca_isub h dX12_isCell_9 ?_
  refine ca_si h hG ms_X12_73 (c_X12_inRange) rfl rfl rfl rfl ⟨Nat.le_refl _, Nat.le_refl _⟩ rfl dX12_isCell_10 ?_
  refine ca_ireturn h hR (bI_z _) dX12_isCell_13 ?_
  exact ⟨rfl, rfl, rfl⟩
set_option maxHeartbeats 100000 in
theorem c_X12_isMobile {l : Launch} {E : ch_E} {S : ch_S} {μ : ch_M} (hs : ch_Std E S) {x : Int32} : ch_C E l yX12_isMobile cX12_isMobile 2 (some FieldType.boolean) 2 0 0 S μ [.ref (S.1 16 22 0), .int x] (ch_F (some (.int (bI (decide (¬ x < 0 ∧ ¬ μ 16 23 0 2 - 1 < x))))) S (μ)) := by
  refine ch_enter rfl rfl ?_
  intro X hl0 h hG hR hnm
  have h : ch_H X E RX12 cX12_isMobile 2 := h
  show ch_W X E 2 S μ 0 0 0 [(0, .ref (S.1 16 22 0)), (1, .int x)] []
  refine ca_iload_n h dX12_isMobile_0 rfl ?_
  refine ca_iconst h dX12_isMobile_1 ik_0 ?_
  refine ca_aload_nr h dX12_isMobile_2 rfl ?_
  refine gs_X12_9 h hs ⟨rfl, rfl⟩ dX12_isMobile_3 ?_
  refine ca_iconst h dX12_isMobile_6 ik_2 ?_
  refine ca_iald h rfl (hs.1 _ _ _ ⟨rfl, rfl⟩) (vp_in_nI (n := 2) (N := 1302) (by decide) (by decide)) dX12_isMobile_7 ?_
  refine ca_iconst h dX12_isMobile_8 ik_1 ?_
  refine ca_isub h dX12_isMobile_9 ?_
  refine ca_si h hG ms_X12_73 (c_X12_inRange) rfl rfl rfl rfl ⟨Nat.le_refl _, Nat.le_refl _⟩ rfl dX12_isMobile_10 ?_
  refine ca_ireturn h hR (bI_z _) dX12_isMobile_13 ?_
  exact ⟨rfl, rfl, rfl⟩
set_option maxHeartbeats 100000 in
theorem c_X12_talks {l : Launch} {E : ch_E} {S : ch_S} {μ : ch_M} (hs : ch_Std E S) {m : Nat} (hm : m < 12) : ch_C E l yX12_talks cX12_talks 2 (some FieldType.boolean) 2 0 0 S μ [.ref (S.1 16 22 0), .int (nI m)] (ch_F (some (.int (bI (decide (μ 16 23 0 (210 + 91 * m + 4) = 1))))) S (μ)) := by
  refine ch_enter rfl rfl ?_
  intro X hl0 h hG hR hnm
  have h : ch_H X E RX12 cX12_talks 2 := h
  show ch_W X E 2 S μ 0 0 0 [(0, .ref (S.1 16 22 0)), (1, .int (nI m))] []
  refine ca_aload_nr h dX12_talks_0 rfl ?_
  refine ca_iload_n h dX12_talks_1 rfl ?_
  refine ca_iconst h dX12_talks_2 ik_4 ?_
  refine ca_vi h hG ml_X12_77 (c_X12_of hs (f := 4) (by omega) (by decide)) (ci := 12) rfl rfl rfl (hs.1 _ _ _ ⟨rfl, rfl⟩) rfl rfl rfl rfl ⟨Nat.le_refl _, Nat.le_refl _⟩ rfl dX12_talks_3 ?_
  refine ca_iconst h dX12_talks_6 ik_1 ?_
  refine ca_icmp_ne (tgt := 14) h dX12_talks_7 (by decide) (fun c_7 => ?_) (fun c_7 => ?_)
  ·
    refine ca_iconst h dX12_talks_14 ik_0 ?_
    refine ca_ireturn h hR rfl dX12_talks_15 ?_
    exact ⟨by simp [bI, c_7], rfl, rfl⟩
  ·
    refine ca_iconst h dX12_talks_10 ik_1 ?_
    refine ca_goto (tgt := 15) h dX12_talks_11 (by decide) ?_
    refine ca_ireturn h hR rfl dX12_talks_15 ?_
    exact ⟨by simp [bI, c_7], rfl, rfl⟩
set_option maxHeartbeats 100000 in
theorem c_X12_hasRequest {l : Launch} {E : ch_E} {S : ch_S} {μ : ch_M} (hs : ch_Std E S) {m : Nat} (hm : m < 12) : ch_C E l yX12_hasRequest cX12_hasRequest 2 (some FieldType.boolean) 2 0 0 S μ [.ref (S.1 16 22 0), .int (nI m)] (ch_F (some (.int (bI (decide (¬ μ 16 23 0 (210 + 91 * m + 8) = -1))))) S (μ)) := by
  refine ch_enter rfl rfl ?_
  intro X hl0 h hG hR hnm
  have h : ch_H X E RX12 cX12_hasRequest 2 := h
  show ch_W X E 2 S μ 0 0 0 [(0, .ref (S.1 16 22 0)), (1, .int (nI m))] []
  refine ca_aload_nr h dX12_hasRequest_0 rfl ?_
  refine ca_iload_n h dX12_hasRequest_1 rfl ?_
  refine ca_bipush h dX12_hasRequest_2 bk_8 ?_
  refine ca_vi h hG ml_X12_77 (c_X12_of hs (f := 8) (by omega) (by decide)) (ci := 12) rfl rfl rfl (hs.1 _ _ _ ⟨rfl, rfl⟩) rfl rfl rfl rfl ⟨Nat.le_refl _, Nat.le_refl _⟩ rfl dX12_hasRequest_4 ?_
  refine ca_iconst h dX12_hasRequest_7 ik_m1 ?_
  refine ca_icmp_eq (tgt := 15) h dX12_hasRequest_8 (by decide) (fun c_8 => ?_) (fun c_8 => ?_)
  ·
    refine ca_iconst h dX12_hasRequest_15 ik_0 ?_
    refine ca_ireturn h hR rfl dX12_hasRequest_16 ?_
    exact ⟨by simp [bI, c_8], rfl, rfl⟩
  ·
    refine ca_iconst h dX12_hasRequest_11 ik_1 ?_
    refine ca_goto (tgt := 16) h dX12_hasRequest_12 (by decide) ?_
    refine ca_ireturn h hR rfl dX12_hasRequest_16 ?_
    exact ⟨by simp [bI, c_8], rfl, rfl⟩
set_option maxHeartbeats 100000 in
theorem c_X12_relationOfD {l : Launch} {E : ch_E} {S : ch_S} {μ : ch_M} (hs : ch_Std E S) {a b : Int32} (hR24 : Int32.toNatClampNeg (μ 16 24 0 1) ≤ 24) : ch_C E l yX12_relationOf cX12_relationOf 6 (some FieldType.int) 1 0 0 S μ [.ref (S.1 16 22 0), .ref (S.1 16 24 0), .int a, .int b] (ch_F (some (.int (r_ro (μ 16 24 0) a b))) S (μ)) := by
  refine ch_enter rfl rfl ?_
  intro X hl0 h hG hR hnm
  have h : ch_H X E RX12 cX12_relationOf 6 := h
  show ch_W X E 6 S μ 0 0 0 [(0, .ref (S.1 16 22 0)), (1, .ref (S.1 16 24 0)), (2, .int a), (3, .int b)] []
  refine ca_iconst h dX12_relationOf_0 ik_0 ?_
  refine ca_istore h dX12_relationOf_1 rfl ?_
  have loop_3 : ∀ (jj n : Nat), n + jj = Int32.toNatClampNeg (μ 16 24 0 1) → ∀ (x4 : Int32) (e4 : x4 = nI n) (hx : r_ro (μ 16 24 0) a b = kq (fun r => decide (μ 16 24 0 (90 + 5 * r) = a ∧ μ 16 24 0 (90 + 5 * r + 1) = b)) (Int32.toNatClampNeg (μ 16 24 0 1)) jj), ch_W X E 6 S μ 0 0 3 [(0, .ref (S.1 16 22 0)), (1, .ref (S.1 16 24 0)), (2, .int a), (3, .int b), (4, .int x4)] [] := by
    intro jj
    induction jj with
    | zero =>
      intro n hn x4 e4 hx
      have hn : n = Int32.toNatClampNeg (μ 16 24 0 1) := by omega
      subst e4
      refine ca_iload h dX12_relationOf_3 rfl ?_
      refine ca_aload_nr h dX12_relationOf_5 rfl ?_
      refine ca_iconst h dX12_relationOf_6 ik_1 ?_
      refine ca_iald h rfl (hs.1 _ _ _ ⟨rfl, rfl⟩) (vp_in_nI (n := 1) (N := 1302) (by decide) (by decide)) dX12_relationOf_7 ?_
      refine ca_icmp_ge (tgt := 49) h dX12_relationOf_8 (by decide) (fun c_8 => ?_) (fun c_8 => ?_)
      ·
        refine ca_iconst h dX12_relationOf_49 ik_m1 ?_
        refine ca_ireturn h hR rfl dX12_relationOf_50 ?_
        exact ⟨by rw [hx]; rfl, rfl, rfl⟩
      · exact absurd c_8 (lt_no rfl hn)
    | succ jj ih_3 =>
      intro n hn x4 e4 hx
      have hn1 : n < Int32.toNatClampNeg (μ 16 24 0 1) := by omega
      subst e4
      refine ca_iload h dX12_relationOf_3 rfl ?_
      refine ca_aload_nr h dX12_relationOf_5 rfl ?_
      refine ca_iconst h dX12_relationOf_6 ik_1 ?_
      refine ca_iald h rfl (hs.1 _ _ _ ⟨rfl, rfl⟩) (vp_in_nI (n := 1) (N := 1302) (by decide) (by decide)) dX12_relationOf_7 ?_
      refine ca_icmp_ge (tgt := 49) h dX12_relationOf_8 (by decide) (fun c_8 => ?_) (fun c_8 => ?_)
      · exact absurd (lt_yes rfl hn1) c_8
      ·
        refine ca_bipush h dX12_relationOf_11 bk_90 ?_
        refine ca_iconst h dX12_relationOf_13 ik_5 ?_
        refine ca_iload h dX12_relationOf_14 rfl ?_
        refine ca_imul h dX12_relationOf_16 ?_
        refine ca_iadd h dX12_relationOf_17 ?_
        refine ca_istore h dX12_relationOf_18 rfl ?_
        refine ca_aload_nr h dX12_relationOf_20 rfl ?_
        refine ca_iload h dX12_relationOf_21 rfl ?_
        refine ca_iconst h dX12_relationOf_23 ik_0 ?_
        refine ca_iadd h dX12_relationOf_24 ?_
        refine ca_top (show _ = nI (90 + 5 * n) by rw [show (0 : Int32) = nI 0 from rfl, ix_r]; rfl) ?_
        refine ca_iald h rfl (hs.1 _ _ _ ⟨rfl, rfl⟩) (vp_in_nI (by omega) (by decide)) dX12_relationOf_25 ?_
        refine ca_iload_n h dX12_relationOf_26 rfl ?_
        refine ca_icmp_ne (tgt := 43) h dX12_relationOf_27 (by decide) (fun c_27 => ?_) (fun c_27 => ?_)
        ·
          refine ca_iinc h dX12_relationOf_43 rfl ik_1 rfl ?_
          refine ca_goto (tgt := 3) h dX12_relationOf_46 (by decide) ?_
          refine ca_pick [2, 3, 4, 5, 0] rfl ?_
          exact ih_3 (n + 1) (by omega) _ (nI_1 n) (by rw [hx, kq_no hn (fun z => c_27 (by rw [nI_clamp (by omega)]; exact (of_decide_eq_true z).1))])
        ·
          refine ca_aload_nr h dX12_relationOf_30 rfl ?_
          refine ca_iload h dX12_relationOf_31 rfl ?_
          refine ca_iconst h dX12_relationOf_33 ik_1 ?_
          refine ca_iadd h dX12_relationOf_34 ?_
          refine ca_top (show _ = nI (90 + 5 * n + 1) by rw [show (1 : Int32) = nI 1 from rfl, ix_r]) ?_
          refine ca_iald h rfl (hs.1 _ _ _ ⟨rfl, rfl⟩) (vp_in_nI (by omega) (by decide)) dX12_relationOf_35 ?_
          refine ca_iload_n h dX12_relationOf_36 rfl ?_
          refine ca_icmp_ne (tgt := 43) h dX12_relationOf_37 (by decide) (fun c_37 => ?_) (fun c_37 => ?_)
          ·
            refine ca_iinc h dX12_relationOf_43 rfl ik_1 rfl ?_
            refine ca_goto (tgt := 3) h dX12_relationOf_46 (by decide) ?_
            refine ca_pick [2, 3, 4, 5, 0] rfl ?_
            exact ih_3 (n + 1) (by omega) _ (nI_1 n) (by rw [hx, kq_no hn (fun z => c_37 (by rw [nI_clamp (by omega)]; exact (of_decide_eq_true z).2))])
          ·
            refine ca_iload h dX12_relationOf_40 rfl ?_
            refine ca_ireturn h hR rfl dX12_relationOf_42 ?_
            exact ⟨by rw [hx, kq_yes hn (decide_eq_true ⟨by have c9 := c_27; rw [nI_clamp (by omega)] at c9; exact c9, by have c9 := c_37; rw [nI_clamp (by omega)] at c9; exact c9⟩)], rfl, rfl⟩
  refine ca_pick [1, 2, 3, 4, 0] rfl ?_
  exact loop_3 _ 0 (Nat.zero_add _) _ rfl rfl
set_option maxHeartbeats 100000 in
theorem c_X12_relationOf {l : Launch} {E : ch_E} {S : ch_S} {μ : ch_M} (hs : ch_Std E S) {a b : Int32} (hR24 : Int32.toNatClampNeg (μ 16 23 0 1) ≤ 24) : ch_C E l yX12_relationOf cX12_relationOf 6 (some FieldType.int) 1 0 0 S μ [.ref (S.1 16 22 0), .ref (S.1 16 23 0), .int a, .int b] (ch_F (some (.int (r_ro (μ 16 23 0) a b))) S (μ)) := by
  refine ch_enter rfl rfl ?_
  intro X hl0 h hG hR hnm
  have h : ch_H X E RX12 cX12_relationOf 6 := h
  show ch_W X E 6 S μ 0 0 0 [(0, .ref (S.1 16 22 0)), (1, .ref (S.1 16 23 0)), (2, .int a), (3, .int b)] []
  refine ca_iconst h dX12_relationOf_0 ik_0 ?_
  refine ca_istore h dX12_relationOf_1 rfl ?_
  have loop_3 : ∀ (jj n : Nat), n + jj = Int32.toNatClampNeg (μ 16 23 0 1) → ∀ (x4 : Int32) (e4 : x4 = nI n) (hx : r_ro (μ 16 23 0) a b = kq (fun r => decide (μ 16 23 0 (90 + 5 * r) = a ∧ μ 16 23 0 (90 + 5 * r + 1) = b)) (Int32.toNatClampNeg (μ 16 23 0 1)) jj), ch_W X E 6 S μ 0 0 3 [(0, .ref (S.1 16 22 0)), (1, .ref (S.1 16 23 0)), (2, .int a), (3, .int b), (4, .int x4)] [] := by
    intro jj
    induction jj with
    | zero =>
      intro n hn x4 e4 hx
      have hn : n = Int32.toNatClampNeg (μ 16 23 0 1) := by omega
      subst e4
      refine ca_iload h dX12_relationOf_3 rfl ?_
      refine ca_aload_nr h dX12_relationOf_5 rfl ?_
      refine ca_iconst h dX12_relationOf_6 ik_1 ?_
      refine ca_iald h rfl (hs.1 _ _ _ ⟨rfl, rfl⟩) (vp_in_nI (n := 1) (N := 1302) (by decide) (by decide)) dX12_relationOf_7 ?_
      refine ca_icmp_ge (tgt := 49) h dX12_relationOf_8 (by decide) (fun c_8 => ?_) (fun c_8 => ?_)
      ·
        refine ca_iconst h dX12_relationOf_49 ik_m1 ?_
        refine ca_ireturn h hR rfl dX12_relationOf_50 ?_
        exact ⟨by rw [hx]; rfl, rfl, rfl⟩
      · exact absurd c_8 (lt_no rfl hn)
    | succ jj ih_3 =>
      intro n hn x4 e4 hx
      have hn1 : n < Int32.toNatClampNeg (μ 16 23 0 1) := by omega
      subst e4
      refine ca_iload h dX12_relationOf_3 rfl ?_
      refine ca_aload_nr h dX12_relationOf_5 rfl ?_
      refine ca_iconst h dX12_relationOf_6 ik_1 ?_
      refine ca_iald h rfl (hs.1 _ _ _ ⟨rfl, rfl⟩) (vp_in_nI (n := 1) (N := 1302) (by decide) (by decide)) dX12_relationOf_7 ?_
      refine ca_icmp_ge (tgt := 49) h dX12_relationOf_8 (by decide) (fun c_8 => ?_) (fun c_8 => ?_)
      · exact absurd (lt_yes rfl hn1) c_8
      ·
        refine ca_bipush h dX12_relationOf_11 bk_90 ?_
        refine ca_iconst h dX12_relationOf_13 ik_5 ?_
        refine ca_iload h dX12_relationOf_14 rfl ?_
        refine ca_imul h dX12_relationOf_16 ?_
        refine ca_iadd h dX12_relationOf_17 ?_
        refine ca_istore h dX12_relationOf_18 rfl ?_
        refine ca_aload_nr h dX12_relationOf_20 rfl ?_
        refine ca_iload h dX12_relationOf_21 rfl ?_
        refine ca_iconst h dX12_relationOf_23 ik_0 ?_
        refine ca_iadd h dX12_relationOf_24 ?_
        refine ca_top (show _ = nI (90 + 5 * n) by rw [show (0 : Int32) = nI 0 from rfl, ix_r]; rfl) ?_
        refine ca_iald h rfl (hs.1 _ _ _ ⟨rfl, rfl⟩) (vp_in_nI (by omega) (by decide)) dX12_relationOf_25 ?_
        refine ca_iload_n h dX12_relationOf_26 rfl ?_
        refine ca_icmp_ne (tgt := 43) h dX12_relationOf_27 (by decide) (fun c_27 => ?_) (fun c_27 => ?_)
        ·
          refine ca_iinc h dX12_relationOf_43 rfl ik_1 rfl ?_
          refine ca_goto (tgt := 3) h dX12_relationOf_46 (by decide) ?_
          refine ca_pick [2, 3, 4, 5, 0] rfl ?_
          exact ih_3 (n + 1) (by omega) _ (nI_1 n) (by rw [hx, kq_no hn (fun z => c_27 (by rw [nI_clamp (by omega)]; exact (of_decide_eq_true z).1))])
        ·
          refine ca_aload_nr h dX12_relationOf_30 rfl ?_
          refine ca_iload h dX12_relationOf_31 rfl ?_
          refine ca_iconst h dX12_relationOf_33 ik_1 ?_
          refine ca_iadd h dX12_relationOf_34 ?_
          refine ca_top (show _ = nI (90 + 5 * n + 1) by rw [show (1 : Int32) = nI 1 from rfl, ix_r]) ?_
          refine ca_iald h rfl (hs.1 _ _ _ ⟨rfl, rfl⟩) (vp_in_nI (by omega) (by decide)) dX12_relationOf_35 ?_
          refine ca_iload_n h dX12_relationOf_36 rfl ?_
          refine ca_icmp_ne (tgt := 43) h dX12_relationOf_37 (by decide) (fun c_37 => ?_) (fun c_37 => ?_)
          ·
            refine ca_iinc h dX12_relationOf_43 rfl ik_1 rfl ?_
            refine ca_goto (tgt := 3) h dX12_relationOf_46 (by decide) ?_
            refine ca_pick [2, 3, 4, 5, 0] rfl ?_
            exact ih_3 (n + 1) (by omega) _ (nI_1 n) (by rw [hx, kq_no hn (fun z => c_37 (by rw [nI_clamp (by omega)]; exact (of_decide_eq_true z).2))])
          ·
            refine ca_iload h dX12_relationOf_40 rfl ?_
            refine ca_ireturn h hR rfl dX12_relationOf_42 ?_
            exact ⟨by rw [hx, kq_yes hn (decide_eq_true ⟨by have c9 := c_27; rw [nI_clamp (by omega)] at c9; exact c9, by have c9 := c_37; rw [nI_clamp (by omega)] at c9; exact c9⟩)], rfl, rfl⟩
  refine ca_pick [1, 2, 3, 4, 0] rfl ?_
  exact loop_3 _ 0 (Nat.zero_add _) _ rfl rfl
set_option maxHeartbeats 100000 in
theorem c_X12_isNeighbour {l : Launch} {E : ch_E} {S : ch_S} {μ : ch_M} (hs : ch_Std E S) {a b : Int32} (hR24 : Int32.toNatClampNeg (μ 16 23 0 1) ≤ 24) : ch_C E l yX12_isNeighbour cX12_isNeighbour 3 (some FieldType.boolean) 2 0 0 S μ [.ref (S.1 16 22 0), .int a, .int b] (ch_F (some (.int (bI (decide (¬ r_ro (μ 16 23 0) a b = -1))))) S (μ)) := by
  refine ch_enter rfl rfl ?_
  intro X hl0 h hG hR hnm
  have h : ch_H X E RX12 cX12_isNeighbour 3 := h
  show ch_W X E 3 S μ 0 0 0 [(0, .ref (S.1 16 22 0)), (1, .int a), (2, .int b)] []
  refine ca_aload_nr h dX12_isNeighbour_0 rfl ?_
  refine ca_aload_nr h dX12_isNeighbour_1 rfl ?_
  refine gs_X12_9 h hs ⟨rfl, rfl⟩ dX12_isNeighbour_2 ?_
  refine ca_iload_n h dX12_isNeighbour_5 rfl ?_
  refine ca_iload_n h dX12_isNeighbour_6 rfl ?_
  refine ca_vi h hG ml_X12_81 (c_X12_relationOf hs hR24) (ci := 12) rfl rfl rfl (hs.1 _ _ _ ⟨rfl, rfl⟩) rfl rfl rfl rfl ⟨Nat.le_refl _, Nat.le_refl _⟩ rfl dX12_isNeighbour_7 ?_
  refine ca_iconst h dX12_isNeighbour_10 ik_m1 ?_
  refine ca_icmp_eq (tgt := 18) h dX12_isNeighbour_11 (by decide) (fun c_11 => ?_) (fun c_11 => ?_)
  ·
    refine ca_iconst h dX12_isNeighbour_18 ik_0 ?_
    refine ca_ireturn h hR rfl dX12_isNeighbour_19 ?_
    exact ⟨by simp [bI, c_11], rfl, rfl⟩
  ·
    refine ca_iconst h dX12_isNeighbour_14 ik_1 ?_
    refine ca_goto (tgt := 19) h dX12_isNeighbour_15 (by decide) ?_
    refine ca_ireturn h hR rfl dX12_isNeighbour_19 ?_
    exact ⟨by simp [bI, c_11], rfl, rfl⟩
set_option maxHeartbeats 100000 in
theorem c_X12_levelAt {l : Launch} {E : ch_E} {S : ch_S} {μ : ch_M} (hs : ch_Std E S) {n : ch_N} {c : Nat} (hc : c < 8) (he : ∀ f, f < 9 → μ 16 23 0 (18 + 9 * c + f) = n 1 c f) {x y : Int32} : ch_C E l yX12_levelAt cX12_levelAt 5 (some FieldType.int) 2 0 0 S μ [.ref (S.1 16 22 0), .int (nI c), .int x, .int y] (ch_F (some (.int (k_lv n c x y))) S (μ)) := by
  refine ch_enter rfl rfl ?_
  intro X hl0 h hG hR hnm
  have h : ch_H X E RX12 cX12_levelAt 5 := h
  show ch_W X E 5 S μ 0 0 0 [(0, .ref (S.1 16 22 0)), (1, .int (nI c)), (2, .int x), (3, .int y)] []
  refine ca_aload_nr h dX12_levelAt_0 rfl ?_
  refine ca_iload_n h dX12_levelAt_1 rfl ?_
  refine ca_iconst h dX12_levelAt_2 ik_0 ?_
  refine ca_vi h hG ml_X12_85 (c_X12_ofCell hs (f := 0) (by omega) (by decide)) (ci := 12) rfl rfl rfl (hs.1 _ _ _ ⟨rfl, rfl⟩) rfl rfl rfl rfl ⟨Nat.le_refl _, Nat.le_refl _⟩ rfl dX12_levelAt_3 ?_
  refine ca_iload_n h dX12_levelAt_6 rfl ?_
  refine ca_isub h dX12_levelAt_7 ?_
  refine ca_mabs h hG rfl rfl rfl kw_1423 kw_772 kw_16 kw_773 (Nat.le_of_ble_eq_true rfl) dX12_levelAt_8 ?_
  refine ca_aload_nr h dX12_levelAt_11 rfl ?_
  refine ca_iload_n h dX12_levelAt_12 rfl ?_
  refine ca_iconst h dX12_levelAt_13 ik_1 ?_
  refine ca_vi h hG ml_X12_85 (c_X12_ofCell hs (f := 1) (by omega) (by decide)) (ci := 12) rfl rfl rfl (hs.1 _ _ _ ⟨rfl, rfl⟩) rfl rfl rfl rfl ⟨Nat.le_refl _, Nat.le_refl _⟩ rfl dX12_levelAt_14 ?_
  refine ca_iload_n h dX12_levelAt_17 rfl ?_
  refine ca_isub h dX12_levelAt_18 ?_
  refine ca_mabs h hG rfl rfl rfl kw_1423 kw_772 kw_16 kw_773 (Nat.le_of_ble_eq_true rfl) dX12_levelAt_19 ?_
  refine ca_iadd h dX12_levelAt_22 ?_
  refine ca_istore h dX12_levelAt_23 rfl ?_
  refine ca_iconst h dX12_levelAt_25 ik_0 ?_
  refine ca_aload_nr h dX12_levelAt_26 rfl ?_
  refine ca_iload_n h dX12_levelAt_27 rfl ?_
  refine ca_iconst h dX12_levelAt_28 ik_2 ?_
  refine ca_vi h hG ml_X12_85 (c_X12_ofCell hs (f := 2) (by omega) (by decide)) (ci := 12) rfl rfl rfl (hs.1 _ _ _ ⟨rfl, rfl⟩) rfl rfl rfl rfl ⟨Nat.le_refl _, Nat.le_refl _⟩ rfl dX12_levelAt_29 ?_
  refine ca_aload_nr h dX12_levelAt_32 rfl ?_
  refine ca_iload_n h dX12_levelAt_33 rfl ?_
  refine ca_iconst h dX12_levelAt_34 ik_3 ?_
  refine ca_vi h hG ml_X12_85 (c_X12_ofCell hs (f := 3) (by omega) (by decide)) (ci := 12) rfl rfl rfl (hs.1 _ _ _ ⟨rfl, rfl⟩) rfl rfl rfl rfl ⟨Nat.le_refl _, Nat.le_refl _⟩ rfl dX12_levelAt_35 ?_
  refine ca_iload h dX12_levelAt_38 rfl ?_
  refine ca_imul h dX12_levelAt_40 ?_
  refine ca_bipush h dX12_levelAt_41 bk_100 ?_
  refine ca_idiv h dX12_levelAt_43 (by decide) ?_
  refine ca_isub h dX12_levelAt_44 ?_
  refine ca_mmax h hG rfl rfl rfl kw_1424 kw_775 kw_16 kw_776 (Nat.le_of_ble_eq_true rfl) dX12_levelAt_45 ?_
  refine ca_ireturn h hR rfl dX12_levelAt_48 ?_
  exact ⟨by rw [he 0 (by decide), he 1 (by decide), he 2 (by decide), he 3 (by decide)]; unfold k_lv; rw [k_abs_sub x, k_abs_sub y]; rfl, rfl, rfl⟩
