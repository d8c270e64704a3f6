/-! JDK: strings' methods, bitCount -/
theorem k_chr_z : ∀ a, a < 8 → ∀ i, i < 16 → narrow .char (.int (((k_chr a i &&& 255).toUInt32 % 65536).toInt32)) = .int (k_chr a i) ∧ ((k_chr a i &&& 255).toUInt32 % 65536).toInt32 = k_chr a i := by decide
theorem k_len_le : ∀ a, a < 8 → k_len a < 16 := by decide
theorem sh0 (x : Int32) : x >>> ((0 : Int32) &&& 31) = x := by
  apply Int32.toBitVec_inj.mp
  simp
set_option maxHeartbeats 100000 in
theorem c_J3_checkIndexN {l : Launch} {E : ch_E} {S : ch_S} {μ : ch_M} {i n : Int32} (h1 : ¬ i < 0) (h2 : i < n) : ch_C E l yJ3_checkIndex_8e157 cJ3_checkIndex_8e157 3 (some FieldType.int) 1 0 0 S μ [.int i, .int n, .null] (ch_F (some (.int (i))) S (μ)) := by
  refine ch_enter rfl rfl ?_
  intro X hl0 h hG hR hnm
  have h : ch_H X E RJ3 cJ3_checkIndex_8e157 3 := h
  show ch_W X E 3 S μ 0 0 0 [(0, .int i), (1, .int n), (2, .null)] []
  refine ca_iload_n h dJ3_checkIndex_8e157_0 rfl ?_
  refine ca_if_lt (tgt := 9) h dJ3_checkIndex_8e157_1 (by decide) (fun c_1 => ?_) (fun c_1 => ?_)
  · exact absurd c_1 h1
  ·
    refine ca_iload_n h dJ3_checkIndex_8e157_4 rfl ?_
    refine ca_iload_n h dJ3_checkIndex_8e157_5 rfl ?_
    refine ca_icmp_lt (tgt := 16) h dJ3_checkIndex_8e157_6 (by decide) (fun c_6 => ?_) (fun c_6 => ?_)
    ·
      refine ca_iload_n h dJ3_checkIndex_8e157_16 rfl ?_
      refine ca_ireturn h hR rfl dJ3_checkIndex_8e157_17 ?_
      exact ⟨rfl, rfl, rfl⟩
    · exact absurd h2 c_6
set_option maxHeartbeats 100000 in
theorem c_J3_checkIndex {l : Launch} {E : ch_E} {S : ch_S} {μ : ch_M} {i n : Int32} {r : Nat} (h1 : ¬ i < 0) (h2 : i < n) : ch_C E l yJ3_checkIndex_8e157 cJ3_checkIndex_8e157 3 (some FieldType.int) 1 0 0 S μ [.int i, .int n, .ref r] (ch_F (some (.int (i))) S (μ)) := by
  refine ch_enter rfl rfl ?_
  intro X hl0 h hG hR hnm
  have h : ch_H X E RJ3 cJ3_checkIndex_8e157 3 := h
  show ch_W X E 3 S μ 0 0 0 [(0, .int i), (1, .int n), (2, .ref r)] []
  refine ca_iload_n h dJ3_checkIndex_8e157_0 rfl ?_
  refine ca_if_lt (tgt := 9) h dJ3_checkIndex_8e157_1 (by decide) (fun c_1 => ?_) (fun c_1 => ?_)
  · exact absurd c_1 h1
  ·
    refine ca_iload_n h dJ3_checkIndex_8e157_4 rfl ?_
    refine ca_iload_n h dJ3_checkIndex_8e157_5 rfl ?_
    refine ca_icmp_lt (tgt := 16) h dJ3_checkIndex_8e157_6 (by decide) (fun c_6 => ?_) (fun c_6 => ?_)
    ·
      refine ca_iload_n h dJ3_checkIndex_8e157_16 rfl ?_
      refine ca_ireturn h hR rfl dJ3_checkIndex_8e157_17 ?_
      exact ⟨rfl, rfl, rfl⟩
    · exact absurd h2 c_6
set_option maxHeartbeats 100000 in
theorem c_J0_checkIndex_df160 {l : Launch} {E : ch_E} {S : ch_S} {μ : ch_M} {i n : Int32} (h1 : ¬ i < 0) (h2 : i < n) : ch_C E l yJ0_checkIndex_df160 cJ0_checkIndex_df160 2 none 2 0 0 S μ [.int i, .int n] (ch_F none S (μ)) := by
  refine ch_enter rfl rfl ?_
  intro X hl0 h hG hR hnm
  have h : ch_H X E RJ0 cJ0_checkIndex_df160 2 := h
  show ch_W X E 2 S μ 0 0 0 [(0, .int i), (1, .int n)] []
  refine ca_iload_n h dJ0_checkIndex_df160_0 rfl ?_
  refine ca_iload_n h dJ0_checkIndex_df160_1 rfl ?_
  refine ca_gfor h dJ0_checkIndex_df160_2 ?_ (fun r => ?_)
  ·
    refine ca_si h hG ms_J0_1059 (c_J3_checkIndexN (by assumption) (by assumption)) rfl rfl rfl rfl ⟨Nat.le_refl _, Nat.le_refl _⟩ rfl dJ0_checkIndex_df160_5 ?_
    refine ca_pop h dJ0_checkIndex_df160_8 rfl ?_
    refine ca_vreturn h hR dJ0_checkIndex_df160_9 ?_
    exact ⟨rfl, rfl, rfl⟩
  ·
    refine ca_si h hG ms_J0_1059 (c_J3_checkIndex (by assumption) (by assumption)) rfl rfl rfl rfl ⟨Nat.le_refl _, Nat.le_refl _⟩ rfl dJ0_checkIndex_df160_5 ?_
    refine ca_pop h dJ0_checkIndex_df160_8 rfl ?_
    refine ca_vreturn h hR dJ0_checkIndex_df160_9 ?_
    exact ⟨rfl, rfl, rfl⟩
set_option maxHeartbeats 100000 in
theorem c_J0_coder_7d493 {l : Launch} {E : ch_E} {S : ch_S} {μ : ch_M} {a : Nat} (ha : a < ch_nS) : ch_C E l yJ0_coder_7d493 cJ0_coder_7d493 1 (some FieldType.byte) 1 0 0 S μ [.ref (E.2.2.2.1 a)] (ch_F (some (.int (0))) S (μ)) := by
  refine ch_enter rfl rfl ?_
  intro X hl0 h hG hR hnm
  have h : ch_H X E RJ0 cJ0_coder_7d493 1 := h
  show ch_W X E 1 S μ 0 0 0 [(0, .ref (E.2.2.2.1 a))] []
  refine ca_gcmp h dJ0_coder_7d493_0 ?_
  refine ca_if_eq (tgt := 13) h dJ0_coder_7d493_3 (by decide) (fun c_3 => ?_) (fun c_3 => ?_)
  · exact absurd c_3 (by decide)
  ·
    refine ca_aload_nr h dJ0_coder_7d493_6 rfl ?_
    refine ca_scod h (by assumption) dJ0_coder_7d493_7 ?_
    refine ca_goto (tgt := 14) h dJ0_coder_7d493_10 (by decide) ?_
    refine ca_ireturn h hR rfl dJ0_coder_7d493_14 ?_
    exact ⟨rfl, rfl, rfl⟩
set_option maxHeartbeats 100000 in
theorem c_J0_length_8abf5 {l : Launch} {E : ch_E} {S : ch_S} {μ : ch_M} {a : Nat} (ha : a < ch_nS) : ch_C E l yJ0_length_8abf5 cJ0_length_8abf5 1 (some FieldType.int) 2 0 0 S μ [.ref (E.2.2.2.1 a)] (ch_F (some (.int (nI (k_len a)))) S (μ)) := by
  refine ch_enter rfl rfl ?_
  intro X hl0 h hG hR hnm
  have h : ch_H X E RJ0 cJ0_length_8abf5 1 := h
  show ch_W X E 1 S μ 0 0 0 [(0, .ref (E.2.2.2.1 a))] []
  refine ca_aload_nr h dJ0_length_8abf5_0 rfl ?_
  refine ca_sval h (by assumption) dJ0_length_8abf5_1 ?_
  refine ca_slen h (by assumption) dJ0_length_8abf5_4 ?_
  refine ca_aload_nr h dJ0_length_8abf5_5 rfl ?_
  refine ca_stx h (by assumption) hG ml_J0_335 (c_J0_coder_7d493 (by assumption)) rfl rfl rfl rfl rfl ⟨Nat.le_refl _, Nat.le_refl _⟩ rfl dJ0_length_8abf5_6 ?_
  refine ca_ishr h dJ0_length_8abf5_9 ?_
  refine ca_ireturn h hR rfl dJ0_length_8abf5_10 ?_
  exact ⟨by rw [sh0], rfl, rfl⟩
set_option maxHeartbeats 100000 in
theorem c_J0_isLatin1_aae02 {l : Launch} {E : ch_E} {S : ch_S} {μ : ch_M} {a : Nat} (ha : a < ch_nS) : ch_C E l yJ0_isLatin1_aae02 cJ0_isLatin1_aae02 1 (some FieldType.boolean) 1 0 0 S μ [.ref (E.2.2.2.1 a)] (ch_F (some (.int (1))) S (μ)) := by
  refine ch_enter rfl rfl ?_
  intro X hl0 h hG hR hnm
  have h : ch_H X E RJ0 cJ0_isLatin1_aae02 1 := h
  show ch_W X E 1 S μ 0 0 0 [(0, .ref (E.2.2.2.1 a))] []
  refine ca_gcmp h dJ0_isLatin1_aae02_0 ?_
  refine ca_if_eq (tgt := 17) h dJ0_isLatin1_aae02_3 (by decide) (fun c_3 => ?_) (fun c_3 => ?_)
  · exact absurd c_3 (by decide)
  ·
    refine ca_aload_nr h dJ0_isLatin1_aae02_6 rfl ?_
    refine ca_scod h (by assumption) dJ0_isLatin1_aae02_7 ?_
    refine ca_if_ne (tgt := 17) h dJ0_isLatin1_aae02_10 (by decide) (fun c_10 => ?_) (fun c_10 => ?_)
    · exact absurd rfl c_10
    ·
      refine ca_iconst h dJ0_isLatin1_aae02_13 ik_1 ?_
      refine ca_goto (tgt := 18) h dJ0_isLatin1_aae02_14 (by decide) ?_
      refine ca_ireturn h hR rfl dJ0_isLatin1_aae02_18 ?_
      exact ⟨rfl, rfl, rfl⟩
set_option maxHeartbeats 100000 in
theorem c_J1_charAt_3b067 {l : Launch} {E : ch_E} {S : ch_S} {μ : ch_M} {a : Nat} (ha : a < ch_nS) {i : Nat} (hi : i < k_len a) : ch_C E l yJ1_charAt_3b067 cJ1_charAt_3b067 2 (some FieldType.char) 3 0 0 S μ [.ref (E.2.2.2.2 a), .int (nI i)] (ch_F (some (.int (k_chr a i))) S (μ)) := by
  refine ch_enter rfl rfl ?_
  intro X hl0 h hG hR hnm
  have h : ch_H X E RJ1 cJ1_charAt_3b067 2 := h
  have hl := k_len_le a ha
  have h1 : ¬ nI i < 0 := nI_pos (by omega)
  have h2 : nI i < nI (k_len a) := nI_lt hi (by omega)
  show ch_W X E 2 S μ 0 0 0 [(0, .ref (E.2.2.2.2 a)), (1, .int (nI i))] []
  refine ca_iload_n h dJ1_charAt_3b067_0 rfl ?_
  refine ca_aload_nr h dJ1_charAt_3b067_1 rfl ?_
  refine ca_slen h (by assumption) dJ1_charAt_3b067_2 ?_
  refine ca_sv h hG ms_J1_9 (c_J0_checkIndex_df160 (by assumption) (by assumption)) rfl rfl rfl rfl ⟨Nat.le_refl _, Nat.le_refl _⟩ rfl dJ1_charAt_3b067_3 ?_
  refine ca_aload_nr h dJ1_charAt_3b067_6 rfl ?_
  refine ca_iload_n h dJ1_charAt_3b067_7 rfl ?_
  refine ca_sald h (by assumption) (vp_in_nI hi (by omega)) dJ1_charAt_3b067_8 ?_
  refine ca_sipush h dJ1_charAt_3b067_9 sk_255 ?_
  refine ca_iand h dJ1_charAt_3b067_12 ?_
  refine ca_i2c h dJ1_charAt_3b067_13 ?_
  refine ca_ireturn h hR (by rw [nI_clamp (by omega)]; exact (k_chr_z a ha i (by omega)).1.trans (by rw [(k_chr_z a ha i (by omega)).2])) dJ1_charAt_3b067_14 ?_
  exact ⟨by rw [nI_clamp (by omega), (k_chr_z a ha i (by omega)).2], rfl, rfl⟩
set_option maxHeartbeats 100000 in
theorem c_J0_charAt_5068e {l : Launch} {E : ch_E} {S : ch_S} {μ : ch_M} {a : Nat} (ha : a < ch_nS) {i : Nat} (hi : i < k_len a) : ch_C E l yJ0_charAt_5068e cJ0_charAt_5068e 2 (some FieldType.char) 4 0 0 S μ [.ref (E.2.2.2.1 a), .int (nI i)] (ch_F (some (.int (k_chr a i))) S (μ)) := by
  refine ch_enter rfl rfl ?_
  intro X hl0 h hG hR hnm
  have h : ch_H X E RJ0 cJ0_charAt_5068e 2 := h
  show ch_W X E 2 S μ 0 0 0 [(0, .ref (E.2.2.2.1 a)), (1, .int (nI i))] []
  refine ca_aload_nr h dJ0_charAt_5068e_0 rfl ?_
  refine ca_stx h (by assumption) hG ml_J0_492 (c_J0_isLatin1_aae02 (by assumption)) rfl rfl rfl rfl rfl ⟨Nat.le_refl _, Nat.le_refl _⟩ rfl dJ0_charAt_5068e_1 ?_
  refine ca_if_eq (tgt := 16) h dJ0_charAt_5068e_4 (by decide) (fun c_4 => ?_) (fun c_4 => ?_)
  · exact absurd c_4 (by decide)
  ·
    refine ca_aload_nr h dJ0_charAt_5068e_7 rfl ?_
    refine ca_sval h (by assumption) dJ0_charAt_5068e_8 ?_
    refine ca_iload_n h dJ0_charAt_5068e_11 rfl ?_
    refine ca_si h hG ms_J0_495 (c_J1_charAt_3b067 (by assumption) (by assumption)) rfl rfl rfl rfl ⟨Nat.le_refl _, Nat.le_refl _⟩ rfl dJ0_charAt_5068e_12 ?_
    refine ca_ireturn h hR (by have hl := k_len_le a ha; have z := (k_chr_z a ha i (by omega)); rw [z.2] at z; exact z.1) dJ0_charAt_5068e_15 ?_
    exact ⟨rfl, rfl, rfl⟩
def k_us (x y : Int32) : Int32 := (x.toUInt32 >>> (y.toUInt32 &&& Int32.toUInt32 31)).toInt32
def k_bc (x : Int32) : Int32 :=
  let a := x - (k_us x 1 &&& 1431655765)
  let b := (a &&& 858993459) + (k_us a 2 &&& 858993459)
  let c := (b + k_us b 4) &&& 252645135
  let d := c + k_us c 8
  (d + k_us d 16) &&& 63
