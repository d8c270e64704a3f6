/-! THE REFERENCE'S READING: words, numbers, start and end -/
def r_isw (q : ch_N) (a j : Nat) : Prop := q 12 0 1 = 0 ∧ t_n q - t_s q = k_len a ∧ ∀ i, i < j → t_at (q 13 0) (t_e q) (t_s q + i) = k_chr a i
def r_num (q : ch_N) : Nat → Int32 := fun N => kf (fun i r => k_min 1000000 (10 * r + t_at (q 13 0) (t_e q) (t_s q + i) - 48)) N 0
theorem r_num_s (q : ch_N) (N : Nat) : r_num q (N + 1) = k_min 1000000 (10 * r_num q N + t_at (q 13 0) (t_e q) (t_s q + N) - 48) := rfl
theorem t_num_s (q : ch_N) (N : Nat) : t_num q (N + 1) = if t_num q N < 100000 then t_num q N * 10 + (t_at (q 13 0) (t_e q) (t_s q + N) - 48) else t_num q N := rfl
theorem t_dig {x : Int32} (h : t_kd x = 2) : ∃ d, d ≤ 9 ∧ x - 48 = nI d ∧ x = nI (48 + d) := by
  obtain ⟨h1, h2⟩ := (t_kd2 x).mp h
  obtain ⟨a, ha, rfl⟩ := r_bd (k := 57) (by decide) (fun z => h1 (Int32.lt_trans z (by decide))) h2
  have h3 : 48 ≤ a := Nat.not_lt.mp (fun z => h1 (nI_lt (b := 48) z (by decide)))
  exact ⟨a - 48, by omega, by rw [show (48 : Int32) = nI 48 from rfl, pk_sub h3], by congr 1; omega⟩
theorem r_num_rel {q : ch_N} : ∀ N, (∀ i, i < N → t_k (q 13 0) (t_e q) (t_s q + i) = 2) → ∃ a b, t_num q N = nI a ∧ r_num q N = nI b ∧ a < 1000000 ∧ b ≤ 1000000 ∧ (a = b ∨ (100000 ≤ a ∧ 100000 ≤ b))
  | 0, _ => ⟨0, 0, rfl, rfl, by omega, by omega, Or.inl rfl⟩
  | N + 1, h => by
    obtain ⟨a, b, e1, e2, ha, hb, hr⟩ := r_num_rel N (fun i hi => h i (by omega))
    obtain ⟨d, hd, e3, e4⟩ := t_dig (h N (by omega))
    have eb : 10 * nI b + t_at (q 13 0) (t_e q) (t_s q + N) - 48 = nI (10 * b + d) := by
      rw [e4, show (10 : Int32) = nI 10 from rfl, show (48 : Int32) = nI 48 from rfl, pk_mul, nI_add, pk_sub (by omega)]
      congr 1
      omega
    have em : k_min 1000000 (nI (10 * b + d)) = nI (if 10 * b + d < 1000000 then 10 * b + d else 1000000) := by
      unfold k_min
      by_cases g : 10 * b + d < 1000000
      · rw [if_pos (show nI (10 * b + d) < 1000000 from nI_lt (b := 1000000) g (by decide)), if_pos g]
      · rw [if_neg (show ¬ nI (10 * b + d) < 1000000 from nI_nlt (b := 1000000) (by omega) (by omega)), if_neg g]; rfl
    rw [t_num_s, r_num_s, e1, e2, e3, eb, em]
    by_cases g : a < 100000
    · have hab : a = b := by omega
      rw [if_pos (show nI a < 100000 from nI_lt (b := 100000) g (by decide)), show (10 : Int32) = nI 10 from rfl, pk_mul, nI_add]
      refine ⟨a * 10 + d, _, rfl, rfl, by omega, by split <;> omega, Or.inl ?_⟩
      rw [if_pos (by omega)]
      omega
    · rw [if_neg (show ¬ nI a < 100000 from nI_nlt (b := 100000) (by omega) (by omega))]
      refine ⟨a, _, rfl, rfl, ha, by split <;> omega, Or.inr ⟨by omega, ?_⟩⟩
      split <;> omega
theorem t_digits {q p : ch_N} (h : r_X1 q p) (h2 : q 12 0 7 = 2) : ∀ i, i < t_n q - t_s q → t_k (q 13 0) (t_e q) (t_s q + i) = 2 := by
  obtain ⟨-, hx, -, -, -, d1, d2, d3⟩ := h
  intro i hi
  have hk : t_k (q 13 0) (t_e q) (t_s q) = 2 := d1.symm.trans h2
  have hlt : t_s q < t_e q := by have := hx.1.2.2.2; omega
  have e := t_nn_run hlt hk (Or.inr rfl)
  exact t_rn_all (q 13 0) (t_e q) 2 _ _ _ (Nat.le_add_right _ _) (by rw [e, ← d3]; omega)
/-- what a number's reading makes of it on both sides -/
theorem r_num_in {q p : ch_N} {lo hi : Int32} (h : r_X1 q p) (h2 : q 12 0 7 = 2) (hh : hi < 100000) : ((t_num q (t_n q - t_s q) < lo ∨ hi < t_num q (t_n q - t_s q)) ↔ ¬ (¬ r_num q (t_n q - t_s q) < lo ∧ ¬ hi < r_num q (t_n q - t_s q))) ∧ ((¬ r_num q (t_n q - t_s q) < lo ∧ ¬ hi < r_num q (t_n q - t_s q)) → r_num q (t_n q - t_s q) = t_num q (t_n q - t_s q)) := by
  obtain ⟨a, b, e1, e2, ha, hb, hr⟩ := r_num_rel (t_n q - t_s q) (t_digits h h2)
  rw [e1, e2]
  rcases hr with rfl | ⟨h3, h4⟩
  · exact ⟨⟨fun z y => z.elim y.1 y.2, fun z => by
      by_cases g : nI a < lo
      · exact Or.inl g
      · exact Or.inr (Classical.byContradiction fun y => z ⟨g, y⟩)⟩, fun _ => rfl⟩
  · have g1 : hi < nI a := Int32.lt_of_lt_of_le hh (Int32.not_lt.mp (nI_nlt (a := a) (b := 100000) h3 (by omega)))
    have g2 : hi < nI b := Int32.lt_of_lt_of_le hh (Int32.not_lt.mp (nI_nlt (a := b) (b := 100000) h4 (by omega)))
    exact ⟨⟨fun _ y => y.2 g2, fun _ => Or.inr g1⟩, fun y => absurd g2 y.2⟩
set_option maxHeartbeats 100000 in
theorem c_X12_isWord {l : Launch} {E : ch_E} {S : ch_S} {μ : ch_M} (hs : ch_Std E S) {q : ch_N} (hX : r_X1 q (μ 16)) {a : Nat} (ha : a < ch_nS) (hl : 0 < k_len a) (hc : t_kd (k_chr a 0) = 1) : ch_C E l yX12_isWord cX12_isWord 4 (some FieldType.boolean) 5 0 0 S μ [.ref (S.1 16 22 0), .ref (E.2.2.2.1 a)] (ch_F (some (.int (bI (t_is q a)))) S (μ)) := by
  refine ch_enter rfl rfl ?_
  intro X hl0 h hG hR hnm
  have h : ch_H X E RX12 cX12_isWord 4 := h
  obtain ⟨⟨x1, x2, x3, x4⟩, x5, x6, x7, x8, x9, x10, x11⟩ := id hX
  have hle := k_len_le a ha
  show ch_W X E 4 S μ 0 0 0 [(0, .ref (S.1 16 22 0)), (1, .ref (E.2.2.2.1 a))] []
  have K_39 : ∀ (bv : Bool) (_ : bv = true → r_isw q a 0) (_ : bv = false → t_is q a = false), ch_W X E 4 S μ 0 0 39 [(0, .ref (S.1 16 22 0)), (1, .ref (E.2.2.2.1 a)), (2, .int (bI bv)), (3, .int (nI 0))] [] := by
    intro bv0 hbt0 hbf0
    have loop_39 : ∀ (jj j : Nat), j + jj = k_len a → ∀ (bv : Bool) (x2 : Int32) (e2 : x2 = bI bv) (x3 : Int32) (e3 : x3 = nI j) (hbt : bv = true → r_isw q a j) (hbf : bv = false → t_is q a = false), ch_W X E 4 S μ 0 0 39 [(0, .ref (S.1 16 22 0)), (1, .ref (E.2.2.2.1 a)), (2, .int x2), (3, .int x3)] [] := by
      intro jj
      induction jj with
      | zero =>
        intro j hn bv x2 e2 x3 e3 hbt hbf
        have hn : j = k_len a := by omega
        subst e2 e3
        refine ca_iload_n h dX12_isWord_39 rfl ?_
        refine ca_if_eq (tgt := 82) h dX12_isWord_40 (by decide) (fun c_40 => ?_) (fun c_40 => ?_)
        ·
          refine ca_iload_n h dX12_isWord_82 rfl ?_
          refine ca_ireturn h hR (bI_z _) dX12_isWord_83 ?_
          have hbv : bv = false := by revert c_40; cases bv <;> intro c_40; rfl; exact absurd c_40 (by decide)
          exact ⟨by rw [hbf hbv, hbv], rfl, rfl⟩
        ·
          refine ca_iload_n h dX12_isWord_43 rfl ?_
          refine ca_aload_nr h dX12_isWord_44 rfl ?_
          refine ca_stx h ha hG ml_X12_316 (c_J0_length_8abf5 ha) rfl rfl rfl rfl rfl ⟨Nat.le_refl _, Nat.le_refl _⟩ rfl dX12_isWord_45 ?_
          refine ca_icmp_ge (tgt := 82) h dX12_isWord_48 (by decide) (fun c_48 => ?_) (fun c_48 => ?_)
          ·
            refine ca_iload_n h dX12_isWord_82 rfl ?_
            refine ca_ireturn h hR (bI_z _) dX12_isWord_83 ?_
            have hbv : bv = true := by revert c_40; cases bv <;> intro c_40; exact absurd rfl c_40; rfl
            obtain ⟨g1, g2, g3⟩ := hbt hbv
            exact ⟨by rw [hbv, show t_is q a = true from decide_eq_true ⟨g1, g2, by rw [← hn]; exact g3⟩], rfl, rfl⟩
          · exact absurd c_48 (nI_nlt (by omega) (by omega))
      | succ jj ih_39 =>
        intro j hn bv x2 e2 x3 e3 hbt hbf
        have hn1 : j < k_len a := by omega
        subst e2 e3
        refine ca_iload_n h dX12_isWord_39 rfl ?_
        refine ca_if_eq (tgt := 82) h dX12_isWord_40 (by decide) (fun c_40 => ?_) (fun c_40 => ?_)
        ·
          refine ca_iload_n h dX12_isWord_82 rfl ?_
          refine ca_ireturn h hR (bI_z _) dX12_isWord_83 ?_
          have hbv : bv = false := by revert c_40; cases bv <;> intro c_40; rfl; exact absurd c_40 (by decide)
          exact ⟨by rw [hbf hbv, hbv], rfl, rfl⟩
        ·
          refine ca_iload_n h dX12_isWord_43 rfl ?_
          refine ca_aload_nr h dX12_isWord_44 rfl ?_
          refine ca_stx h ha hG ml_X12_316 (c_J0_length_8abf5 ha) rfl rfl rfl rfl rfl ⟨Nat.le_refl _, Nat.le_refl _⟩ rfl dX12_isWord_45 ?_
          refine ca_icmp_ge (tgt := 82) h dX12_isWord_48 (by decide) (fun c_48 => ?_) (fun c_48 => ?_)
          · exact absurd (nI_lt hn1 (by omega)) c_48
          ·
            refine ca_aload_nr h dX12_isWord_51 rfl ?_
            refine ca_iload_n h dX12_isWord_52 rfl ?_
            refine ca_stx h ha hG ml_X12_320 (c_J0_charAt_5068e ha hn1) rfl rfl rfl rfl rfl ⟨Nat.le_refl _, Nat.le_refl _⟩ rfl dX12_isWord_53 ?_
            refine ca_aload_nr h dX12_isWord_56 rfl ?_
            refine gs_X12_31 h hs ⟨rfl, rfl⟩ dX12_isWord_57 ?_
            refine ca_aload_nr h dX12_isWord_60 rfl ?_
            refine gi_X12_289 h (hs.1 _ _ _ ⟨rfl, rfl⟩) dX12_isWord_61 ?_
            refine ca_iload_n h dX12_isWord_64 rfl ?_
            refine ca_iadd h dX12_isWord_65 ?_
            refine ca_top (show _ = nI (t_s q + j) by rw [x6, x5.2.1, nI_add]) ?_
            have hbv : bv = true := by revert c_40; cases bv <;> intro c_40; exact absurd rfl c_40; rfl
            obtain ⟨g1, g2, g3⟩ := hbt hbv
            have hjt : t_s q + j < t_e q := by have := x5.1.2.2.2; omega
            have h700 := x5.1.2.1
            refine ca_iald h rfl (hs.1 _ _ _ ⟨rfl, rfl⟩) (vp_in_nI (by omega) (by decide)) dX12_isWord_66 ?_
            refine ca_icmp_ne (tgt := 74) h dX12_isWord_67 (by decide) (fun c_67 => ?_) (fun c_67 => ?_)
            ·
              refine ca_iconst h dX12_isWord_74 ik_0 ?_
              refine ca_istore_n h dX12_isWord_75 rfl ?_
              refine ca_iinc h dX12_isWord_76 rfl ik_1 rfl ?_
              refine ca_goto (tgt := 39) h dX12_isWord_79 (by decide) ?_
              refine ca_pick [2, 3, 1, 0] rfl ?_
              exact ih_39 (j + 1) (by omega) false _ rfl _ (nI_1 j) (fun z => absurd z (by decide)) (fun _ => Bool.eq_false_iff.mpr (fun z => c_67 (by rw [nI_clamp (by omega), (x4 _ hjt).1]; have y := (of_decide_eq_true z).2.2 j hn1; unfold t_at at y; rw [if_pos hjt] at y; exact y.symm)))
            ·
              refine ca_iconst h dX12_isWord_70 ik_1 ?_
              refine ca_goto (tgt := 75) h dX12_isWord_71 (by decide) ?_
              refine ca_istore_n h dX12_isWord_75 rfl ?_
              refine ca_iinc h dX12_isWord_76 rfl ik_1 rfl ?_
              refine ca_goto (tgt := 39) h dX12_isWord_79 (by decide) ?_
              refine ca_pick [2, 3, 1, 0] rfl ?_
              have e9 : t_at (q 13 0) (t_e q) (t_s q + j) = k_chr a j := by have c9 := c_67; rw [nI_clamp (by omega), (x4 _ hjt).1] at c9; unfold t_at; rw [if_pos hjt]; exact c9.symm
              exact ih_39 (j + 1) (by omega) true _ rfl _ (nI_1 j) (fun _ => ⟨g1, g2, fun i hi => by rcases Nat.lt_succ_iff_lt_or_eq.mp hi with z | z; exact g3 i z; rw [z]; exact e9⟩) (fun z => absurd z (by decide))
    refine ca_pick [0, 1, 2, 3] rfl ?_
    exact loop_39 (k_len a) 0 (Nat.zero_add _) bv0 _ rfl _ rfl hbt0 hbf0
  refine ca_aload_nr h dX12_isWord_0 rfl ?_
  refine gi_X12_301 h (hs.1 _ _ _ ⟨rfl, rfl⟩) dX12_isWord_1 ?_
  rw [x3]
  refine ca_if_ne (tgt := 35) h dX12_isWord_4 (by decide) (fun c_4 => ?_) (fun c_4 => ?_)
  ·
    refine ca_iconst h dX12_isWord_35 ik_0 ?_
    refine ca_istore_n h dX12_isWord_36 rfl ?_
    refine ca_iconst h dX12_isWord_37 ik_0 ?_
    refine ca_istore_n h dX12_isWord_38 rfl ?_
    refine ca_pick [2, 3, 1, 0] rfl ?_
    exact K_39 false (fun z => absurd z (by decide)) (fun _ => Bool.eq_false_iff.mpr (fun z => by exact c_4 (of_decide_eq_true z).1))
  ·
    refine ca_aload_nr h dX12_isWord_7 rfl ?_
    refine gi_X12_292 h (hs.1 _ _ _ ⟨rfl, rfl⟩) dX12_isWord_8 ?_
    refine ca_top (show _ = r_tok (q 12 0 7) from x7) ?_
    refine ca_iconst h dX12_isWord_11 ik_1 ?_
    refine ca_icmp_ne (tgt := 35) h dX12_isWord_12 (by decide) (fun c_12 => ?_) (fun c_12 => ?_)
    ·
      refine ca_iconst h dX12_isWord_35 ik_0 ?_
      refine ca_istore_n h dX12_isWord_36 rfl ?_
      refine ca_iconst h dX12_isWord_37 ik_0 ?_
      refine ca_istore_n h dX12_isWord_38 rfl ?_
      refine ca_pick [2, 3, 1, 0] rfl ?_
      exact K_39 false (fun z => absurd z (by decide)) (fun _ => Bool.eq_false_iff.mpr (fun z => by exact c_12 (by rw [(t_is_kind hX z hl).1, hc]; rfl)))
    ·
      refine ca_aload_nr h dX12_isWord_15 rfl ?_
      refine ca_stx h ha hG ml_X12_316 (c_J0_length_8abf5 ha) rfl rfl rfl rfl rfl ⟨Nat.le_refl _, Nat.le_refl _⟩ rfl dX12_isWord_16 ?_
      refine ca_aload_nr h dX12_isWord_19 rfl ?_
      refine gi_X12_286 h (hs.1 _ _ _ ⟨rfl, rfl⟩) dX12_isWord_20 ?_
      refine ca_aload_nr h dX12_isWord_23 rfl ?_
      refine gi_X12_289 h (hs.1 _ _ _ ⟨rfl, rfl⟩) dX12_isWord_24 ?_
      refine ca_isub h dX12_isWord_27 ?_
      refine ca_icmp_ne (tgt := 35) h dX12_isWord_28 (by decide) (fun c_28 => ?_) (fun c_28 => ?_)
      ·
        refine ca_iconst h dX12_isWord_35 ik_0 ?_
        refine ca_istore_n h dX12_isWord_36 rfl ?_
        refine ca_iconst h dX12_isWord_37 ik_0 ?_
        refine ca_istore_n h dX12_isWord_38 rfl ?_
        refine ca_pick [2, 3, 1, 0] rfl ?_
        exact K_39 false (fun z => absurd z (by decide)) (fun _ => Bool.eq_false_iff.mpr (fun z => by exact c_28 (by rw [x6, x2, x5.1.2.2.1, x5.2.1, pk_sub x5.2.2, (of_decide_eq_true z).2.1])))
      ·
        refine ca_iconst h dX12_isWord_31 ik_1 ?_
        refine ca_goto (tgt := 36) h dX12_isWord_32 (by decide) ?_
        refine ca_istore_n h dX12_isWord_36 rfl ?_
        refine ca_iconst h dX12_isWord_37 ik_0 ?_
        refine ca_istore_n h dX12_isWord_38 rfl ?_
        refine ca_pick [2, 3, 1, 0] rfl ?_
        exact K_39 true (fun _ => ⟨c_4, by have c9 := c_28; rw [x6, x2, x5.1.2.2.1, x5.2.1, pk_sub x5.2.2] at c9; exact ((nI_eq (by have := k_len_le a ha; omega) (by have := x5.1.2.1; have := x5.1.2.2.2; omega)).mp c9).symm, fun i hi => absurd hi (Nat.not_lt_zero _)⟩) (fun z => absurd z (by decide))
set_option maxHeartbeats 100000 in
theorem c_X12_accept {l : Launch} {E : ch_E} {S : ch_S} {μ : ch_M} (hs : ch_Std E S) {q : ch_N} (hX : r_X1 q (μ 16)) {a : Nat} (ha : a < ch_nS) (hl : 0 < k_len a) (hc : t_kd (k_chr a 0) = 1) : ch_C E l yX12_accept cX12_accept 3 (some FieldType.boolean) 6 0 0 S μ [.ref (S.1 16 22 0), .ref (E.2.2.2.1 a)] (r_V (some (.int (bI (t_is q a)))) (if t_is q a = true then t_adv q else q) S μ) := by
  refine ch_enter rfl rfl ?_
  intro X hl0 h hG hR hnm
  have h : ch_H X E RX12 cX12_accept 3 := h
  obtain ⟨⟨x1, x2, x3, x4⟩, x5, x6, x7, x8, x9, x10, x11⟩ := id hX
  show ch_W X E 3 S μ 0 0 0 [(0, .ref (S.1 16 22 0)), (1, .ref (E.2.2.2.1 a))] []
  refine ca_aload_nr h dX12_accept_0 rfl ?_
  refine ca_aload_nr h dX12_accept_1 rfl ?_
  refine ca_vi h hG ml_X12_324 (c_X12_isWord hs hX ha hl hc) (ci := 12) rfl rfl rfl (hs.1 _ _ _ ⟨rfl, rfl⟩) rfl rfl rfl rfl ⟨Nat.le_refl _, Nat.le_refl _⟩ rfl dX12_accept_2 ?_
  refine ca_istore_n h dX12_accept_5 rfl ?_
  refine ca_iload_n h dX12_accept_6 rfl ?_
  refine ca_if_eq (tgt := 14) h dX12_accept_7 (by decide) (fun c_7 => ?_) (fun c_7 => ?_)
  ·
    refine ca_iload_n h dX12_accept_14 rfl ?_
    refine ca_ireturn h hR (bI_z _) dX12_accept_15 ?_
    exact ⟨rfl, rfl, _, (up_id μ 16).symm, by rw [if_neg (fun z => bI_n0.mpr z c_7)]; exact hX, r_tf_id _⟩
  ·
    refine ca_aload_nr h dX12_accept_10 rfl ?_
    refine ca_vv h hG ml_X12_307 (c_X12_scan hs (e := t_e q) (n := t_n q) (by rw [x1]; exact x5.1.1) x5.1.2.1 (by rw [x2]; exact x5.1.2.2.1) x5.1.2.2.2 (fun i hi => by rw [(x4 i hi).1]; obtain ⟨b, hb, e9⟩ := (x4 i hi).2; rw [e9]; exact nI_nm1 (by omega))) (ci := 12) rfl rfl rfl (hs.1 _ _ _ ⟨rfl, rfl⟩) rfl rfl rfl rfl ⟨Nat.le_refl _, Nat.le_refl _⟩ rfl dX12_accept_11 ?_
    refine ca_iload_n h dX12_accept_14 rfl ?_
    refine ca_ireturn h hR (bI_z _) dX12_accept_15 ?_
    exact ⟨rfl, rfl, _, rfl, by rw [if_pos (bI_n0.mp c_7)]; exact r_X_adv hX.1 x5.1 (of_decide_eq_true (bI_n0.mp c_7)).1, r_tf_ts⟩
theorem t_exp_eq (q : ch_N) (a : Nat) : t_adv (r_chk q (bI (t_is q a)) 1) = t_exp q a := by
  unfold r_chk t_exp
  by_cases h : t_is q a = true
  · rw [if_pos h, h, if_neg (by decide)]
  · rw [if_neg h, Bool.eq_false_iff.mpr h, if_pos (show bI false = 0 from rfl)]
    unfold t_adv
    rw [if_pos (t_fail_ne (by decide))]
set_option maxHeartbeats 100000 in
theorem c_X12_expectWord {l : Launch} {E : ch_E} {S : ch_S} {μ : ch_M} (hs : ch_Std E S) {q : ch_N} (hX : r_X1 q (μ 16)) {a : Nat} (ha : a < ch_nS) (hl : 0 < k_len a) (hc : t_kd (k_chr a 0) = 1) : ch_C E l yX12_expectWord cX12_expectWord 2 none 6 0 0 S μ [.ref (S.1 16 22 0), .ref (E.2.2.2.1 a)] (r_V none (t_exp q a) S μ) := by
  refine ch_enter rfl rfl ?_
  intro X hl0 h hG hR hnm
  have h : ch_H X E RX12 cX12_expectWord 2 := h
  show ch_W X E 2 S μ 0 0 0 [(0, .ref (S.1 16 22 0)), (1, .ref (E.2.2.2.1 a))] []
  refine ca_aload_nr h dX12_expectWord_0 rfl ?_
  refine ca_aload_nr h dX12_expectWord_1 rfl ?_
  refine ca_aload_nr h dX12_expectWord_2 rfl ?_
  refine ca_vi h hG ml_X12_324 (c_X12_isWord hs hX ha hl hc) (ci := 12) rfl rfl rfl (hs.1 _ _ _ ⟨rfl, rfl⟩) rfl rfl rfl rfl ⟨Nat.le_refl _, Nat.le_refl _⟩ rfl dX12_expectWord_3 ?_
  refine ca_iconst h dX12_expectWord_6 ik_1 ?_
  refine ca_vXv h hG ml_X12_328 (c_X12_check hs hX) (ci := 12) rfl rfl rfl (hs.1 _ _ _ ⟨rfl, rfl⟩) rfl rfl rfl rfl ⟨Nat.le_refl _, Nat.le_refl _⟩ rfl dX12_expectWord_7 ?_
  intro μ9 hμ9
  obtain ⟨p, rfl, hX9, hf⟩ := hμ9
  refine ca_aload_nr h dX12_expectWord_10 rfl ?_
  refine ca_vXv h hG ml_X12_332 (c_X12_advance hs (by rw [up_s]; exact hX9)) (ci := 12) rfl rfl rfl (hs.1 _ _ _ ⟨rfl, rfl⟩) rfl rfl rfl rfl ⟨Nat.le_refl _, Nat.le_refl _⟩ rfl dX12_expectWord_11 ?_
  intro μ9 hμ9
  obtain ⟨p2, hp2, hX8, hf2⟩ := hμ9
  rw [up_up] at hp2
  subst hp2
  rw [up_s] at hf2
  refine ca_vreturn h hR dX12_expectWord_14 ?_
  exact ⟨rfl, rfl, p2, rfl, by rw [← t_exp_eq]; exact hX8, r_tf_tr hf hf2⟩
set_option maxHeartbeats 100000 in
theorem c_X12_expect {l : Launch} {E : ch_E} {S : ch_S} {μ : ch_M} (hs : ch_Std E S) {q : ch_N} (hX : r_X1 q (μ 16)) {a : Nat} (hl : k_len a = 1) (hc : t_kd (k_chr a 0) = 4) {c : Int32} (ec : c = k_chr a 0) : ch_C E l yX12_expect cX12_expect 2 none 5 0 0 S μ [.ref (S.1 16 22 0), .int c] (r_V none (t_exp q a) S μ) := by
  refine ch_enter rfl rfl ?_
  intro X hl0 h hG hR hnm
  have h : ch_H X E RX12 cX12_expect 2 := h
  show ch_W X E 2 S μ 0 0 0 [(0, .ref (S.1 16 22 0)), (1, .int c)] []
  refine ca_aload_nr h dX12_expect_0 rfl ?_
  refine ca_aload_nr h dX12_expect_1 rfl ?_
  refine ca_iload_n h dX12_expect_2 rfl ?_
  refine ca_vi h hG ml_X12_335 (c_X12_isSymbol hs hX hl hc ec) (ci := 12) rfl rfl rfl (hs.1 _ _ _ ⟨rfl, rfl⟩) rfl rfl rfl rfl ⟨Nat.le_refl _, Nat.le_refl _⟩ rfl dX12_expect_3 ?_
  refine ca_iconst h dX12_expect_6 ik_1 ?_
  refine ca_vXv h hG ml_X12_328 (c_X12_check hs hX) (ci := 12) rfl rfl rfl (hs.1 _ _ _ ⟨rfl, rfl⟩) rfl rfl rfl rfl ⟨Nat.le_refl _, Nat.le_refl _⟩ rfl dX12_expect_7 ?_
  intro μ9 hμ9
  obtain ⟨p, rfl, hX9, hf⟩ := hμ9
  refine ca_aload_nr h dX12_expect_10 rfl ?_
  refine ca_vXv h hG ml_X12_332 (c_X12_advance hs (by rw [up_s]; exact hX9)) (ci := 12) rfl rfl rfl (hs.1 _ _ _ ⟨rfl, rfl⟩) rfl rfl rfl rfl ⟨Nat.le_refl _, Nat.le_refl _⟩ rfl dX12_expect_11 ?_
  intro μ9 hμ9
  obtain ⟨p2, hp2, hX8, hf2⟩ := hμ9
  rw [up_up] at hp2
  subst hp2
  rw [up_s] at hf2
  refine ca_vreturn h hR dX12_expect_14 ?_
  exact ⟨rfl, rfl, p2, rfl, by rw [← t_exp_eq]; exact hX8, r_tf_tr hf hf2⟩
set_option maxHeartbeats 100000 in
theorem c_X12_value {l : Launch} {E : ch_E} {S : ch_S} {μ : ch_M} (hs : ch_Std E S) {q : ch_N} (hX : r_X1 q (μ 16)) : ch_C E l yX12_value cX12_value 3 (some FieldType.int) 1 0 0 S μ [.ref (S.1 16 22 0)] (ch_F (some (.int ((if q 12 0 7 = 2 then r_num q (t_n q - t_s q) else 0)))) S (μ)) := by
  refine ch_enter rfl rfl ?_
  intro X hl0 h hG hR hnm
  have h : ch_H X E RX12 cX12_value 3 := h
  obtain ⟨⟨x1, x2, x3, x4⟩, x5, x6, x7, x8, x9, x10, x11⟩ := id hX
  have h700 := x5.1.2.1
  have hne := x5.1.2.2.2
  have hsn := x5.2.2
  show ch_W X E 3 S μ 0 0 0 [(0, .ref (S.1 16 22 0))] []
  refine ca_iconst h dX12_value_0 ik_0 ?_
  refine ca_istore_n h dX12_value_1 rfl ?_
  refine ca_aload_nr h dX12_value_2 rfl ?_
  refine gi_X12_289 h (hs.1 _ _ _ ⟨rfl, rfl⟩) dX12_value_3 ?_
  refine ca_istore_n h dX12_value_6 rfl ?_
  have loop_7 : ∀ (jj j : Nat), j + jj = (t_n q - t_s q) → ∀ (x1 : Int32) (e1 : x1 = r_num q j) (x2 : Int32) (e2 : x2 = nI (t_s q + j)) (hk : q 12 0 7 = 2 ∨ j = 0), ch_W X E 3 S μ 0 0 7 [(0, .ref (S.1 16 22 0)), (1, .int x1), (2, .int x2)] [] := by
    intro jj
    induction jj with
    | zero =>
      intro j hn x1 e1 x2 e2 hk
      have hn : j = (t_n q - t_s q) := by omega
      subst e1 e2
      refine ca_iload_n h dX12_value_7 rfl ?_
      refine ca_aload_nr h dX12_value_8 rfl ?_
      refine gi_X12_286 h (hs.1 _ _ _ ⟨rfl, rfl⟩) dX12_value_9 ?_
      refine ca_top (show _ = nI (t_n q) from x2.trans x5.1.2.2.1) ?_
      refine ca_icmp_ge (tgt := 50) h dX12_value_12 (by decide) (fun c_12 => ?_) (fun c_12 => ?_)
      ·
        refine ca_iload_n h dX12_value_50 rfl ?_
        refine ca_ireturn h hR rfl dX12_value_51 ?_
        refine ⟨?_, rfl, rfl⟩
        by_cases g : q 12 0 7 = 2
        · rw [if_pos g, hn]
        · rw [if_neg g, hk.resolve_left g]; rfl
      · exact absurd c_12 (nI_nlt (by omega) (by omega))
    | succ jj ih_7 =>
      intro j hn x1 e1 x2 e2 hk
      have hn1 : j < (t_n q - t_s q) := by omega
      subst e1 e2
      refine ca_iload_n h dX12_value_7 rfl ?_
      refine ca_aload_nr h dX12_value_8 rfl ?_
      refine gi_X12_286 h (hs.1 _ _ _ ⟨rfl, rfl⟩) dX12_value_9 ?_
      refine ca_top (show _ = nI (t_n q) from x2.trans x5.1.2.2.1) ?_
      refine ca_icmp_ge (tgt := 50) h dX12_value_12 (by decide) (fun c_12 => ?_) (fun c_12 => ?_)
      · exact absurd (nI_lt (by omega) (by omega)) c_12
      ·
        refine ca_aload_nr h dX12_value_15 rfl ?_
        refine gi_X12_292 h (hs.1 _ _ _ ⟨rfl, rfl⟩) dX12_value_16 ?_
        refine ca_top (show _ = r_tok (q 12 0 7) from x7) ?_
        refine ca_iconst h dX12_value_19 ik_2 ?_
        refine ca_icmp_ne (tgt := 50) h dX12_value_20 (by decide) (fun c_20 => ?_) (fun c_20 => ?_)
        ·
          refine ca_iload_n h dX12_value_50 rfl ?_
          refine ca_ireturn h hR rfl dX12_value_51 ?_
          refine ⟨?_, rfl, rfl⟩
          by_cases g : q 12 0 7 = 2
          · exact absurd (by rw [g]; rfl) c_20
          · rw [if_neg g, hk.resolve_left g]; rfl
        ·
          have hk2 : q 12 0 7 = 2 := by
            have c9 := c_20
            rcases t_kd4 (t_at (q 13 0) (t_e q) (t_s q)) with z | z | z | z | z <;> (have z2 : q 12 0 7 = _ := x9.trans z)
            · rw [z2] at c9; exact absurd c9 (by decide)
            · rw [z2] at c9; exact absurd c9 (by decide)
            · exact z2
            · exact absurd z2 x10
            · rw [z2] at c9; exact absurd c9 (by decide)
          refine ca_ldcw h kw_1838 dX12_value_23 ?_
          refine ca_bipush h dX12_value_26 bk_10 ?_
          refine ca_iload_n h dX12_value_28 rfl ?_
          refine ca_imul h dX12_value_29 ?_
          refine ca_aload_nr h dX12_value_30 rfl ?_
          refine gs_X12_31 h hs ⟨rfl, rfl⟩ dX12_value_31 ?_
          refine ca_iload_n h dX12_value_34 rfl ?_
          refine ca_iald h rfl (hs.1 _ _ _ ⟨rfl, rfl⟩) (vp_in_nI (by omega) (by decide)) dX12_value_35 ?_
          refine ca_top (show _ = t_at (q 13 0) (t_e q) (t_s q + j) by rw [nI_clamp (by omega), (x4 _ (show t_s q + j < t_e q by omega)).1]; unfold t_at; rw [if_pos (by omega)]) ?_
          refine ca_iadd h dX12_value_36 ?_
          refine ca_bipush h dX12_value_37 bk_48 ?_
          refine ca_isub h dX12_value_39 ?_
          refine ca_mmin h hG rfl rfl rfl kw_1624 kw_486 kw_16 kw_487 (Nat.le_of_ble_eq_true rfl) dX12_value_40 ?_
          refine ca_istore_n h dX12_value_43 rfl ?_
          refine ca_iinc h dX12_value_44 rfl ik_1 rfl ?_
          refine ca_goto (tgt := 7) h dX12_value_47 (by decide) ?_
          refine ca_pick [2, 1, 0] rfl ?_
          exact ih_7 (j + 1) (by omega) _ (by rw [r_num_s]; rfl) _ (nI_1 _) (Or.inl hk2)
  refine ca_pick [2, 1, 0] rfl ?_
  exact loop_7 _ 0 (Nat.zero_add _) _ rfl _ (by rw [x6, x5.2.1]; rfl) (Or.inr rfl)
