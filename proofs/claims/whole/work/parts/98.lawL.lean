/-! THE LAW'S LOOP -/
theorem lw_gt {i N : Nat} (hN : N ≤ 3072) (hi : 6 * i ≤ 3072) : nI N - 6 < nI (6 * i) ↔ ¬ 6 * i + 6 ≤ N := by
  rcases Nat.lt_or_ge N 6 with h | h
  · have hneg : nI N - 6 < 0 := by
      rcases (show N = 0 ∨ N = 1 ∨ N = 2 ∨ N = 3 ∨ N = 4 ∨ N = 5 by omega) with rfl | rfl | rfl | rfl | rfl | rfl <;> decide
    constructor
    · intro _; omega
    · intro _
      by_cases c : nI N - 6 < nI (6 * i)
      · exact c
      · exact absurd (Int32.lt_of_le_of_lt (Int32.not_lt.mp c) hneg) (nI_pos (by omega))
  · rw [show (6 : Int32) = nI 6 from rfl, pk_sub h, nI_ltI (by omega) (by omega)]
    omega
theorem lw_t42 (x : Int32) : (∃ j, j < 42 ∧ x = nI j) ∨ (x.toInt < 0 ∨ 41 < x.toInt) := by
  by_cases h0 : x < 0
  · exact Or.inr (Or.inl (by simpa using Int32.lt_iff_toInt_lt.mp h0))
  · obtain ⟨j, hj, rfl⟩ := nI_of h0
    rcases Nat.lt_or_ge j 42 with h | h
    · exact Or.inl ⟨j, h, rfl⟩
    · refine Or.inr (Or.inr ?_)
      have h2 := Int32.lt_iff_toInt_lt.mp (nI_lt (a := 41) (b := j) (by omega) hj)
      rwa [show (nI 41).toInt = 41 by decide] at h2
set_option maxHeartbeats 1000000 in
theorem lw_loop {X : ch_X} {E : ch_E} {b N : Nat} {xs : Nat → Int32} (K : lw_X X E b N xs) (hN : N ≤ 3072) {xa ma oa c0 s0 : Nat} (hc : c0 + 512 ≤ 601024 ∧ s0 + 3072 ≤ 7293034) (kend : ∀ S μ L, ch_W X E 7 S μ 601024 7293034 2450 L []) : ∀ (jj i : Nat), i + jj = N / 6 → ∀ S μ, lw_S E S μ xa ma oa → ch_W X E 7 S μ (c0 + i) (s0 + 6 * i) 23 [(0, .ref b), (1, .ref xa), (2, .ref ma), (3, .ref oa), (4, .int (nI (6 * i)))] [] := by
  have K0 := K
  obtain ⟨h, hG, hX, hbl, hbA, hl⟩ := K
  intro jj
  induction jj with
  | zero =>
    intro i hi S μ hL
    refine ca_iload h dL_law_23 rfl ?_
    refine ca_aload_nr h dL_law_25 rfl ?_
    refine ca_scl h hX hbl hbA dL_law_26 ?_
    refine ca_bipush h dL_law_27 bk_6 ?_
    refine ca_isub h dL_law_29 ?_
    refine ca_icmp_gt (tgt := 2450) h dL_law_30 (by decide) (fun _ => ?_) (fun c => absurd ((lw_gt hN (by omega)).mpr (by omega)) c)
    exact ca_widen (k := 601024) (n := 7293034) (by omega) (by omega) (kend S μ _)
  | succ jj ih =>
    intro i hi S μ hL
    have hi6 : 6 * i + 6 ≤ N := by omega
    have hkc : (c0 + i) + 1 ≤ 601024 ∧ (s0 + 6 * i) + 6 ≤ 7293034 := ⟨by omega, by omega⟩
    have kk : ∀ S' μ', lw_S E S' μ' xa ma oa → ch_W X E 7 S' μ' (c0 + i + 1) (s0 + 6 * i + 6) 2444 [(0, .ref b), (1, .ref xa), (2, .ref ma), (3, .ref oa), (4, .int (nI (6 * i)))] [] := by
      intro S' μ' hL'
      refine ca_iinc h dL_law_2444 rfl (v := 6) (by decide) rfl ?_
      refine ca_goto (tgt := 23) h dL_law_2447 (by decide) ?_
      refine ca_pick [1, 2, 3, 4, 0] (L' := [(0, .ref b), (1, .ref xa), (2, .ref ma), (3, .ref oa), (4, .int (nI (6 * i) + 6))]) rfl ?_
      rw [show nI (6 * i) + 6 = nI (6 * (i + 1)) from (nI_add ..).trans (by rw [Nat.mul_add])]
      exact ca_room (kc' := c0 + (i + 1)) (ks' := s0 + 6 * (i + 1)) (by omega) (by omega) (ih (i + 1) (by omega) S' μ' hL')
    refine ca_iload h dL_law_23 rfl ?_
    refine ca_aload_nr h dL_law_25 rfl ?_
    refine ca_scl h hX hbl hbA dL_law_26 ?_
    refine ca_bipush h dL_law_27 bk_6 ?_
    refine ca_isub h dL_law_29 ?_
    refine ca_icmp_gt (tgt := 2450) h dL_law_30 (by decide) (fun c => absurd hi6 ((lw_gt hN (by omega)).mp c)) (fun _ => ?_)
    refine ca_aload_nr h dL_law_33 rfl ?_
    refine ca_iload h dL_law_34 rfl ?_
    refine ca_sld h hX hbl hbA (vp_in_nI (by omega) (by omega)) dL_law_36 ?_
    refine ca_bipush h dL_law_37 bk_63 ?_
    refine ca_iand h dL_law_39 ?_
    rcases lw_t42 (xs (Int32.toNatClampNeg (nI (6 * i))) &&& 63) with ⟨j, hj, ej⟩ | ho
    · rw [ej]
      rcases (show j = 0 ∨ j = 1 ∨ j = 2 ∨ j = 3 ∨ j = 4 ∨ j = 5 ∨ j = 6 ∨ j = 7 ∨ j = 8 ∨ j = 9 ∨ j = 10 ∨ j = 11 ∨ j = 12 ∨ j = 13 ∨ j = 14 ∨ j = 15 ∨ j = 16 ∨ j = 17 ∨ j = 18 ∨ j = 19 ∨ j = 20 ∨ j = 21 ∨ j = 22 ∨ j = 23 ∨ j = 24 ∨ j = 25 ∨ j = 26 ∨ j = 27 ∨ j = 28 ∨ j = 29 ∨ j = 30 ∨ j = 31 ∨ j = 32 ∨ j = 33 ∨ j = 34 ∨ j = 35 ∨ j = 36 ∨ j = 37 ∨ j = 38 ∨ j = 39 ∨ j = 40 ∨ j = 41 by omega) with rfl | rfl | rfl | rfl | rfl | rfl | rfl | rfl | rfl | rfl | rfl | rfl | rfl | rfl | rfl | rfl | rfl | rfl | rfl | rfl | rfl | rfl | rfl | rfl | rfl | rfl | rfl | rfl | rfl | rfl | rfl | rfl | rfl | rfl | rfl | rfl | rfl | rfl | rfl | rfl | rfl | rfl
      · exact ca_tableIn h dL_law_40 (by decide) (by decide) (off := 184) rfl (by decide) (lw_c0 K0 hi6 hN hkc hL kk)
      · exact ca_tableIn h dL_law_40 (by decide) (by decide) (off := 257) rfl (by decide) (lw_c1 K0 hi6 hN hkc hL kk)
      · exact ca_tableIn h dL_law_40 (by decide) (by decide) (off := 313) rfl (by decide) (lw_c2 K0 hi6 hN hkc hL kk)
      · exact ca_tableIn h dL_law_40 (by decide) (by decide) (off := 326) rfl (by decide) (lw_c3 K0 hi6 hN hkc hL kk)
      · exact ca_tableIn h dL_law_40 (by decide) (by decide) (off := 339) rfl (by decide) (lw_c4 K0 hi6 hN hkc hL kk)
      · exact ca_tableIn h dL_law_40 (by decide) (by decide) (off := 352) rfl (by decide) (lw_c5 K0 hi6 hN hkc hL kk)
      · exact ca_tableIn h dL_law_40 (by decide) (by decide) (off := 365) rfl (by decide) (lw_c6 K0 hi6 hN hkc hL kk)
      · exact ca_tableIn h dL_law_40 (by decide) (by decide) (off := 378) rfl (by decide) (lw_c7 K0 hi6 hN hkc hL kk)
      · exact ca_tableIn h dL_law_40 (by decide) (by decide) (off := 446) rfl (by decide) (lw_c8 K0 hi6 hN hkc hL kk)
      · exact ca_tableIn h dL_law_40 (by decide) (by decide) (off := 526) rfl (by decide) (lw_c9 K0 hi6 hN hkc hL kk)
      · exact ca_tableIn h dL_law_40 (by decide) (by decide) (off := 594) rfl (by decide) (lw_c10 K0 hi6 hN hkc hL kk)
      · exact ca_tableIn h dL_law_40 (by decide) (by decide) (off := 650) rfl (by decide) (lw_c11 K0 hi6 hN hkc hL kk)
      · exact ca_tableIn h dL_law_40 (by decide) (by decide) (off := 706) rfl (by decide) (lw_c12 K0 hi6 hN hkc hL kk)
      · exact ca_tableIn h dL_law_40 (by decide) (by decide) (off := 798) rfl (by decide) (lw_c13 K0 hi6 hN hkc hL kk)
      · exact ca_tableIn h dL_law_40 (by decide) (by decide) (off := 878) rfl (by decide) (lw_c14 K0 hi6 hN hkc hL kk)
      · exact ca_tableIn h dL_law_40 (by decide) (by decide) (off := 946) rfl (by decide) (lw_c15 K0 hi6 hN hkc hL kk)
      · exact ca_tableIn h dL_law_40 (by decide) (by decide) (off := 1002) rfl (by decide) (lw_c16 K0 hi6 hN hkc hL kk)
      · exact ca_tableIn h dL_law_40 (by decide) (by decide) (off := 1082) rfl (by decide) (lw_c17 K0 hi6 hN hkc hL kk)
      · exact ca_tableIn h dL_law_40 (by decide) (by decide) (off := 1138) rfl (by decide) (lw_c18 K0 hi6 hN hkc hL kk)
      · exact ca_tableIn h dL_law_40 (by decide) (by decide) (off := 1194) rfl (by decide) (lw_c19 K0 hi6 hN hkc hL kk)
      · exact ca_tableIn h dL_law_40 (by decide) (by decide) (off := 1250) rfl (by decide) (lw_c20 K0 hi6 hN hkc hL kk)
      · exact ca_tableIn h dL_law_40 (by decide) (by decide) (off := 1306) rfl (by decide) (lw_c21 K0 hi6 hN hkc hL kk)
      · exact ca_tableIn h dL_law_40 (by decide) (by decide) (off := 1362) rfl (by decide) (lw_c22 K0 hi6 hN hkc hL kk)
      · exact ca_tableIn h dL_law_40 (by decide) (by decide) (off := 1418) rfl (by decide) (lw_c23 K0 hi6 hN hkc hL kk)
      · exact ca_tableIn h dL_law_40 (by decide) (by decide) (off := 1474) rfl (by decide) (lw_c24 K0 hi6 hN hkc hL kk)
      · exact ca_tableIn h dL_law_40 (by decide) (by decide) (off := 1542) rfl (by decide) (lw_c25 K0 hi6 hN hkc hL kk)
      · exact ca_tableIn h dL_law_40 (by decide) (by decide) (off := 1610) rfl (by decide) (lw_c26 K0 hi6 hN hkc hL kk)
      · exact ca_tableIn h dL_law_40 (by decide) (by decide) (off := 1685) rfl (by decide) (lw_c27 K0 hi6 hN hkc hL kk)
      · exact ca_tableIn h dL_law_40 (by decide) (by decide) (off := 1753) rfl (by decide) (lw_c28 K0 hi6 hN hkc hL kk)
      · exact ca_tableIn h dL_law_40 (by decide) (by decide) (off := 1809) rfl (by decide) (lw_c29 K0 hi6 hN hkc hL kk)
      · exact ca_tableIn h dL_law_40 (by decide) (by decide) (off := 1865) rfl (by decide) (lw_c30 K0 hi6 hN hkc hL kk)
      · exact ca_tableIn h dL_law_40 (by decide) (by decide) (off := 1933) rfl (by decide) (lw_c31 K0 hi6 hN hkc hL kk)
      · exact ca_tableIn h dL_law_40 (by decide) (by decide) (off := 2001) rfl (by decide) (lw_c32 K0 hi6 hN hkc hL kk)
      · exact ca_tableIn h dL_law_40 (by decide) (by decide) (off := 2069) rfl (by decide) (lw_c33 K0 hi6 hN hkc hL kk)
      · exact ca_tableIn h dL_law_40 (by decide) (by decide) (off := 2094) rfl (by decide) (lw_c34 K0 hi6 hN hkc hL kk)
      · exact ca_tableIn h dL_law_40 (by decide) (by decide) (off := 2150) rfl (by decide) (lw_c35 K0 hi6 hN hkc hL kk)
      · exact ca_tableIn h dL_law_40 (by decide) (by decide) (off := 2218) rfl (by decide) (lw_c36 K0 hi6 hN hkc hL kk)
      · exact ca_tableIn h dL_law_40 (by decide) (by decide) (off := 2298) rfl (by decide) (lw_c37 K0 hi6 hN hkc hL kk)
      · exact ca_tableIn h dL_law_40 (by decide) (by decide) (off := 2311) rfl (by decide) (lw_c38 K0 hi6 hN hkc hL kk)
      · exact ca_tableIn h dL_law_40 (by decide) (by decide) (off := 2324) rfl (by decide) (lw_c39 K0 hi6 hN hkc hL kk)
      · exact ca_tableIn h dL_law_40 (by decide) (by decide) (off := 2335) rfl (by decide) (lw_c40 K0 hi6 hN hkc hL kk)
      · exact ca_tableIn h dL_law_40 (by decide) (by decide) (off := 2348) rfl (by decide) (lw_c41 K0 hi6 hN hkc hL kk)
    · exact ca_tableOut h dL_law_40 ho (tgt := 2444) (by decide) (ca_widen (by omega) (by omega) (kk S μ hL))
