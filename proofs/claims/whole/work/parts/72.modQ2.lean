/-! THE REFERENCE: query -/
theorem r_cn_ext {p : Nat → Bool} {N : Nat} : ∀ M, (∀ i, N ≤ i → p i = false) → r_cn p (N + M) = r_cn p N
  | 0, _ => rfl
  | M + 1, h => by
    show r_cn p (N + M) + (if p (N + M) = true then 1 else 0) = _
    rw [r_cn_ext M h, h (N + M) (by omega)]; rfl
theorem k_bc_d : ∀ a, a < 64 → ∀ b, b < 64 → k_bc (nI (64 * a + b)) = nI (r_cn (fun i => (64 * a + b).testBit i) 12) := by decide +kernel
theorem k_bc_b {X c : Nat} (hc : c ≤ 12) (hX : X < 2 ^ c) : k_bc (nI X) = nI (r_cn (fun i => X.testBit i) c) := by
  have hp := p12 hc
  have h := k_bc_d (X / 64) (by omega) (X % 64) (by omega)
  rw [show 64 * (X / 64) + X % 64 = X by omega] at h
  rw [h]
  congr 1
  have he := r_cn_ext (p := fun i => X.testBit i) (N := c) (12 - c) (fun i hi => Nat.testBit_lt_two_pow (Nat.lt_of_lt_of_le hX (Nat.pow_le_pow_right (by decide) hi)))
  rw [show c + (12 - c) = 12 by omega] at he
  exact he
theorem e_bit_t {X i : Nat} (hX : X < 4096) (hi : i < 12) : (nI X &&& e_bit i = 0) ↔ X.testBit i = false := by
  have hp : 2 ^ i ≤ 2048 := Nat.pow_le_pow_right (by decide) (by omega : i ≤ 11)
  rw [e_bit_c i hi, nI_and (by omega) (by omega)]
  have hb : ∀ j, (X &&& 2 ^ i).testBit j = (X.testBit j && decide (i = j)) := fun j => by rw [Nat.testBit_and, Nat.testBit_two_pow]
  have hle : X &&& 2 ^ i ≤ 2 ^ i := Nat.and_le_right
  constructor
  · intro z
    have z0 : X &&& 2 ^ i = 0 := (nI_eq (by omega) (by omega)).mp (z.trans (show (0 : Int32) = nI 0 from rfl))
    have h := hb i
    rw [z0, Nat.zero_testBit, decide_eq_true rfl, Bool.and_true] at h
    exact h.symm
  · intro z
    have z0 : X &&& 2 ^ i = 0 := by
      apply Nat.eq_of_testBit_eq
      intro j
      rw [hb j, Nat.zero_testBit]
      by_cases g : i = j
      · rw [← g, z]; rfl
      · rw [decide_eq_false g, Bool.and_false]
    rw [z0]; rfl
theorem r_bit_1 (X m : Nat) : r_bit X m = 1 ↔ X.testBit m = true := by
  unfold r_bit
  cases X.testBit m <;> decide
theorem e_h1_e (q : ch_N) : e_h1 q = if t_is q 8 = true then q else if t_is q 9 = true then q else t_fail q 1 := by rw [e_h1]
theorem e_qry_2 (n q : ch_N) : (e_qry n q).2 = if t_go (e_h2 n q).2 = true then t_fail (e_h2 n q).2 1 else (e_h2 n q).2 := by rw [e_qry]
theorem e_qry_1 (n q : ch_N) : (e_qry n q).1 = if t_is q 8 = true then k_bc (e_h2 n q).1 else e_fst n (e_h2 n q).1 := by rw [e_qry]
theorem e_h2_e (n q : ch_N) : e_h2 n q = e_tst (e_fac n 6) (t_adv (e_h1 q)) := by rw [e_h2]
theorem r_J_tc {n sn tx : ch_N} {F : Int32} {u : Nat} {hst : Nat → ch_N} {p p' : ch_N} (h : r_J n sn tx F u hst p) (hg : r_tc p p') : r_J n sn tx F u hst p' := by
  have ek : ∀ kd, kd ≠ 22 → kd ≠ 32 → p' kd = p kd := hg.1
  exact r_J_mk h (by rw [ek 23 (by decide) (by decide)]; exact h.1) (hg.2 5 (by omega)) (hg.2 7 (by omega)) (hg.2 12 (by omega)) (hg.2 19 (by omega)) (by rw [ek 26 (by decide) (by decide)]) (by rw [ek 27 (by decide) (by decide)]) (by rw [ek 30 (by decide) (by decide)])
theorem r_J_33 {n sn tx : ch_N} {F : Int32} {u : Nat} {hst : Nat → ch_N} {p : ch_N} {g : Nat → Int32} (h : r_J n sn tx F u hst p) : r_J n sn tx F u hst (na p 33 0 g) :=
  r_J_mk h (by rw [na_k (by decide)]; exact h.1) (by rw [na_k (by decide)]) (by rw [na_k (by decide)]) (by rw [na_k (by decide)]) (by rw [na_k (by decide)]) (by rw [na_k (by decide)]) (by rw [na_k (by decide)]) (by rw [na_k (by decide)])
theorem r_J_24 {n sn tx : ch_N} {F v : Int32} {u : Nat} {hst : Nat → ch_N} {p : ch_N} (h : r_J n sn tx F u hst p) : r_J n sn tx F u hst (nw p 22 0 24 v) :=
  r_J_mk h (by rw [nw_k (by decide)]; exact h.1) (by rw [nw_at, if_neg (by omega)]) (by rw [nw_at, if_neg (by omega)]) (by rw [nw_at, if_neg (by omega)]) (by rw [nw_at, if_neg (by omega)]) (by rw [nw_k (by decide)]) (by rw [nw_k (by decide)]) (by rw [nw_k (by decide)])
set_option maxHeartbeats 1000000 in
theorem c_X12_query {l : Launch} {E : ch_E} {S : ch_S} {μ : ch_M} (hs : ch_Std E S) {n sn tx : ch_N} {F : Int32} {u : Nat} {hst : Nat → ch_N} (hJ : r_J n sn tx F u hst (μ 16)) {L : Nat} (hL : tx 12 0 0 = nI L) (hL7 : L ≤ 700)  {e : Nat} (hx : e ≤ L ∧ e ≤ 200) : ch_C E l yX12_query cX12_query 5 (some FieldType.int) 28 0 0 S μ [.ref (S.1 16 22 0), .int (nI e)] (r_A (some (.int (if (e_qry n (t_open tx (nI e))).2 12 0 1 = 0 then (e_qry n (t_open tx (nI e))).1 else -1000000000 - (e_qry n (t_open tx (nI e))).2 12 0 1))) 0 n sn (t_close (e_qry n (t_open tx (nI e))).2) F u hst S μ) := by
  refine ch_enter rfl rfl ?_
  intro X hl0 h hG hR hnm
  have h : ch_H X E RX12 cX12_query 5 := h
  have hN := hJ.1
  obtain ⟨L', hL1, hL2, hL3, hL4, hL5⟩ := id hJ.2.2.2
  have eLL : L' = L := (nI_eq (by omega) (by omega)).mp (hL2.symm.trans hL)
  have hem : e ≤ L ∧ e ≤ 200 := hx
  have hxm : ¬ nI e < 0 ∧ ¬ k_min (nI L) 200 < nI e := by
    refine ⟨nI_pos (by omega), ?_⟩
    unfold k_min
    by_cases g : (200 : Int32) < nI L
    · rw [if_pos g]; exact nI_nlt (a := 200) (by omega) (by decide)
    · rw [if_neg g]; exact nI_nlt (by omega) (by omega)
  have hmc := hN.2.2.2.2.2.1
  have h02 : ¬ n 0 0 2 < 0 := hN.2.1.2.1.2.2.2.2
  obtain ⟨q0, hq0⟩ : ∃ z, z = t_open tx (nI e) := ⟨_, rfl⟩
  rw [← hq0] at hR
  have hq0e : t_e q0 = e := by rw [hq0]; exact t_tw (by omega)
  show ch_W X E 5 S μ 0 0 0 [(0, .ref (S.1 16 22 0)), (1, .int (nI e))] []
  refine ca_aload_nr h dX12_query_0 rfl ?_
  refine ca_iconst h dX12_query_1 ik_0 ?_
  refine pi_X12_70 h (hs.1 _ _ _ ⟨rfl, rfl⟩) dX12_query_2 ?_
  refine ca_mem (μ'' := up μ 16 (nw (μ 16) 22 0 6 0)) rfl ?_
  refine ca_iload_n h dX12_query_5 rfl ?_
  refine ca_iconst h dX12_query_6 ik_0 ?_
  refine ca_aload_nr h dX12_query_7 rfl ?_
  refine gi_X12_277 h (hs.1 _ _ _ ⟨rfl, rfl⟩) dX12_query_8 ?_
  rw [(show up μ 16 (nw (μ 16) 22 0 6 0) 16 22 0 12 = nI L by rw [up_s, nw_at, if_neg (by omega), hL3, eLL])]
  refine ca_sipush h dX12_query_11 sk_200 ?_
  refine ca_mmin h hG rfl rfl rfl kw_1624 kw_486 kw_16 kw_487 (Nat.le_of_ble_eq_true rfl) dX12_query_14 ?_
  refine ca_si h hG ms_X12_73 (c_X12_inRange) rfl rfl rfl rfl ⟨Nat.le_refl _, Nat.le_refl _⟩ rfl dX12_query_17 ?_
  refine ca_if_ne (tgt := 29) h dX12_query_20 (by decide) (fun c_20 => ?_) (fun c_20 => ?_)
  ·
    refine ca_aload_nr h dX12_query_29 rfl ?_
    refine ca_iconst h dX12_query_30 ik_0 ?_
    refine pi_X12_376 h (hs.1 _ _ _ ⟨rfl, rfl⟩) dX12_query_31 ?_
    refine ca_mem (μ'' := up μ 16 (nw (nw (μ 16) 22 0 6 0) 22 0 24 0)) (by rw [ch_st_nw, up_s, up_up]) ?_
    refine ca_aload_nr h dX12_query_34 rfl ?_
    refine ca_iload_n h dX12_query_35 rfl ?_
    refine ca_vXv h hG ml_X12_357 (c_X12_start hs (q := tx) (e := e) (by omega) (fun i hi => by rw [up_s, nw_k (by decide), nw_k (by decide)]; exact hL4 i (by omega))) (ci := 12) rfl rfl rfl (hs.1 _ _ _ ⟨rfl, rfl⟩) rfl rfl rfl rfl ⟨Nat.le_refl _, Nat.le_refl _⟩ rfl dX12_query_36 ?_
    intro μ9 hμ9
    obtain ⟨p0, rfl, hX0, hf0⟩ := hμ9
    rw [up_up]
    rw [up_s] at hf0
    rw [← hq0] at hX0
    refine ca_aload_nr h dX12_query_39 rfl ?_
    refine ca_ldcws h (i := 412) (List.mem_of_getElem? (i := 36) rfl) dX12_query_40 ?_
    refine ca_vi h hG ml_X12_324 (c_X12_isWord hs (q := q0) (by rw [up_s]; exact hX0) (a := 9) (by decide) (by decide) (by decide)) (ci := 12) rfl rfl rfl (hs.1 _ _ _ ⟨rfl, rfl⟩) rfl rfl rfl rfl ⟨Nat.le_refl _, Nat.le_refl _⟩ rfl dX12_query_43 ?_
    refine ca_istore_n h dX12_query_46 rfl ?_
    refine ca_aload_nr h dX12_query_47 rfl ?_
    refine ca_iload_n h dX12_query_48 rfl ?_
    refine ca_if_ne (tgt := 62) h dX12_query_49 (by decide) (fun c_49 => ?_) (fun c_49 => ?_)
    ·
      refine ca_iconst h dX12_query_62 ik_1 ?_
      refine ca_goto (tgt := 67) h dX12_query_63 (by decide) ?_
      have n8 : ¬ t_is q0 8 = true := t_is_ne (bI_n0.mp c_49) (by decide)
      have e67 : r_chk q0 1 1 = e_h1 q0 := by rw [e_h1_e, if_neg n8, if_pos (bI_n0.mp c_49)]; rfl
      refine ca_iconst h dX12_query_67 ik_1 ?_
      refine ca_vXv h hG ml_X12_328 (c_X12_check hs (q := q0) (by rw [up_s]; exact hX0)) (ci := 12) rfl rfl rfl (hs.1 _ _ _ ⟨rfl, rfl⟩) rfl rfl rfl rfl ⟨Nat.le_refl _, Nat.le_refl _⟩ rfl dX12_query_68 ?_
      intro μ9 hμ9
      obtain ⟨p1, rfl, hX1, hf1⟩ := hμ9
      rw [e67] at hX1
      rw [up_up]
      rw [up_s] at hf1
      refine ca_aload_nr h dX12_query_71 rfl ?_
      refine ca_vXv h hG ml_X12_332 (c_X12_advance hs (q := e_h1 q0) (by rw [up_s]; exact hX1)) (ci := 12) rfl rfl rfl (hs.1 _ _ _ ⟨rfl, rfl⟩) rfl rfl rfl rfl ⟨Nat.le_refl _, Nat.le_refl _⟩ rfl dX12_query_72 ?_
      intro μ9 hμ9
      obtain ⟨p2, rfl, hX2, hf2⟩ := hμ9
      rw [up_up]
      rw [up_s] at hf2
      have hfA : r_tf (nw (nw (nw (μ 16) 22 0 6 0) 22 0 24 0) 22 0 20 0) p2 := r_tf_tr (r_tf_tr hf0 hf1) hf2
      have h20 : p2 22 0 20 = 0 := by rw [hfA.2 20 (by omega), nw_at, if_pos ⟨rfl, rfl, rfl⟩]
      have hh1e : t_e (e_h1 q0) = e := by
        rw [← hq0e, e_h1_e]
        split
        · rfl
        · first
            | (split; rfl; (unfold t_e; rw [t_fail_at (by decide)]))
            | rfl
            | (unfold t_e; rw [t_fail_at (by decide)])
      refine ca_aload_nr h dX12_query_75 rfl ?_
      refine ca_vXv h hG ml_X12_390 (c_X12_compileTest_o0 hs (q := t_adv (e_h1 q0)) (n := n) (by rw [up_s]; exact hX2) hmc h02 (by rw [t_adv_e, hh1e]; omega) (by rw [up_s]; exact h20) (cs := []) (fun _ => by rw [up_s]; exact ⟨⟨by rw [hfA.2 24 (by omega), nw_at, if_neg (by omega), nw_at, if_pos ⟨rfl, rfl, rfl⟩]; rfl, by decide, fun k hk => absurd hk (Nat.not_lt_zero _)⟩, Nat.zero_le _⟩)) (ci := 12) rfl rfl rfl (hs.1 _ _ _ ⟨rfl, rfl⟩) rfl rfl rfl rfl ⟨Nat.le_refl _, Nat.le_refl _⟩ rfl dX12_query_76 ?_
      intro μ9 hμ9
      obtain ⟨p4, C, rfl, hX4, hc4, h204, he4, hC4⟩ := hμ9
      rw [up_up]
      rw [up_s] at hc4
      rw [← e_h2_e] at hX4 he4 hC4
      obtain ⟨A, hA⟩ : ∃ z, z = e_h2 n q0 := ⟨_, rfl⟩
      rw [← hA] at hX4 he4 hC4
      refine ca_aload_nr h dX12_query_79 rfl ?_
      refine ca_aload_nr h dX12_query_80 rfl ?_
      refine gi_X12_301 h (hs.1 _ _ _ ⟨rfl, rfl⟩) dX12_query_81 ?_
      refine ca_top (show _ = A.2 12 0 1 by rw [up_s]; exact hX4.1.2.2.1) ?_
      refine ca_if_ne (tgt := 94) h dX12_query_84 (by decide) (fun c_84 => ?_) (fun c_84 => ?_)
      ·
        refine ca_iconst h dX12_query_94 ik_1 ?_
        refine ca_goto (tgt := 99) h dX12_query_95 (by decide) ?_
        have e99 : r_chk A.2 1 1 = (e_qry n q0).2 := by rw [e_qry_2, ← hA, t_go_e hX4, if_neg (fun z => c_84 (of_decide_eq_true z).1)]; rfl
        refine ca_iconst h dX12_query_99 ik_1 ?_
        refine ca_vXv h hG ml_X12_328 (c_X12_check hs (q := A.2) (by rw [up_s]; exact hX4)) (ci := 12) rfl rfl rfl (hs.1 _ _ _ ⟨rfl, rfl⟩) rfl rfl rfl rfl ⟨Nat.le_refl _, Nat.le_refl _⟩ rfl dX12_query_100 ?_
        intro μ9 hμ9
        obtain ⟨p5, rfl, hX5, hf5⟩ := hμ9
        rw [e99] at hX5
        rw [up_up]
        rw [up_s] at hf5
        obtain ⟨B, hBq⟩ : ∃ z, z = (e_qry n q0).2 := ⟨_, rfl⟩
        rw [← hBq] at hX5
        have hcA : r_tc (nw (nw (μ 16) 22 0 6 0) 22 0 24 0) p5 := r_tc_tr (r_tc_tr (r_tc_tr r_tc_20 (r_tc_tf hfA)) hc4) (r_tc_tf hf5)
        refine ca_aload_nr h dX12_query_103 rfl ?_
        refine ca_vi h hG ml_X12_374 (c_X12_finish_ hs (q := B) (by rw [up_s]; exact hX5)) (ci := 12) rfl rfl rfl (hs.1 _ _ _ ⟨rfl, rfl⟩) rfl rfl rfl rfl ⟨Nat.le_refl _, Nat.le_refl _⟩ rfl dX12_query_104 ?_
        rw [up_s, up_up]
        refine ca_if_eq (tgt := 119) h dX12_query_107 (by decide) (fun c_107 => ?_) (fun c_107 => ?_)
        ·
          have hz0 : B 12 0 1 = 0 := c_107
          have hz0' : (e_qry n q0).2 12 0 1 = 0 := by rw [← hBq]; exact hz0
          have hA0 : A.2 12 0 1 = 0 := by
            rw [e_qry_2, ← hA] at hz0'
            split at hz0'
            · exact absurd hz0' (t_fail_ne (by decide))
            · exact hz0'
          obtain ⟨w0, w1, ⟨X9, hXc, hAX, hbits⟩, w3⟩ := hC4 hA0
          rw [List.nil_append] at w1
          have hX12 : X9 < 4096 := Nat.lt_of_lt_of_le hXc (p12 hmc)
          have hh1 : (e_h1 q0) 12 0 1 = 0 := (t_adv_1 _).symm.trans w0
          have hf8 : t_is q0 9 = true → ¬ t_is q0 8 = true := fun z => t_is_ne z (by decide)
          have hm8 : ¬ t_is q0 9 = true → t_is q0 8 = true := fun z => Classical.byContradiction fun y => by
            rw [e_h1_e, if_neg y, if_neg z] at hh1
            exact absurd hh1 (t_fail_ne (by decide))
          have hw1 : r_C p5 C := r_C_tf w1 hf5
          refine ca_iconst h dX12_query_119 ik_0 ?_
          refine ca_istore_n h dX12_query_120 rfl ?_
          refine ca_iconst h dX12_query_121 ik_0 ?_
          refine ca_istore h dX12_query_122 rfl ?_
          have loop_124 : ∀ (jj m : Nat), m + jj = k_mc n → ∀ (x3 : Int32) (e3 : x3 = nI (r_cn (fun i => X9.testBit i) m)) (x4 : Int32) (e4 : x4 = nI m) (g : Nat → Int32) (hfc : ¬ t_is q0 9 = true ∨ ∀ i, i < m → X9.testBit i = false) (hkq : t_is q0 9 = true → kq (fun i => decide (¬ nI X9 &&& e_bit i = 0)) (k_mc n) (k_mc n) = kq (fun i => decide (¬ nI X9 &&& e_bit i = 0)) (k_mc n) jj) (mm : ch_M) (em : mm = up μ 16 (na (nw (nw p5 22 0 12 0) 22 0 19 (if B 12 0 1 = 0 then -1 else B 12 0 5)) 33 0 g)), ch_W X E 5 S mm 0 0 124 [(0, .ref (S.1 16 22 0)), (1, .int (nI e)), (2, .int (bI (t_is q0 9))), (3, .int x3), (4, .int x4)] [] := by
            intro jj
            induction jj with
            | zero =>
              intro m hn x3 e3 x4 e4 g hfc hkq mm em
              have hn : m = k_mc n := by omega
              subst e3 e4 em
              refine ca_iload h dX12_query_124 rfl ?_
              refine ca_aload_nr h dX12_query_126 rfl ?_
              refine gs_X12_9 h hs ⟨rfl, rfl⟩ dX12_query_127 ?_
              refine ca_iconst h dX12_query_130 ik_2 ?_
              refine ca_iald h rfl (hs.1 _ _ _ ⟨rfl, rfl⟩) (vp_in_nI (n := 2) (N := 1302) (by decide) (by decide)) dX12_query_131 ?_
              refine ca_top (show _ = n 0 0 2 by rw [show Int32.toNatClampNeg 2 = 2 from rfl, up_s, na_k (by decide), nw_k (by decide), nw_k (by decide), hcA.1 23 (by decide) (by decide), nw_k (by decide), nw_k (by decide)]; exact hN.1 2 (by decide)) ?_
              refine ca_icmp_ge (tgt := 163) h dX12_query_132 (by decide) (fun c_132 => ?_) (fun c_132 => ?_)
              ·
                refine ca_iload_n h dX12_query_163 rfl ?_
                refine ca_if_eq (tgt := 171) h dX12_query_164 (by decide) (fun c_164 => ?_) (fun c_164 => ?_)
                ·
                  have hfl : ¬ t_is q0 9 = true := fun z => bI_n0.mpr z c_164
                  refine ca_iload_n h dX12_query_171 rfl ?_
                  refine ca_ireturn h hR rfl dX12_query_172 ?_
                  refine ⟨by rw [if_pos hz0', e_qry_1, if_pos (hm8 hfl), ← hA, hAX, k_bc_b hmc hXc, hn], rfl, _, rfl, ?_, ?_⟩
                  · rw [na_k (by decide), nw_at, if_neg (by omega), nw_at, if_neg (by omega), hcA.2 6 (by omega), nw_at, if_neg (by omega), nw_at, if_pos ⟨rfl, rfl, rfl⟩]
                  · rw [← hBq]
                    exact r_J_33 (r_J_close (q := B) (r_J_tc (p := nw (nw (μ 16) 22 0 6 0) 22 0 24 0) (r_J_24 (r_J_th hJ)) hcA))
                ·
                  have hfl : t_is q0 9 = true := bI_n0.mp c_164
                  refine ca_iconst h dX12_query_167 ik_m1 ?_
                  refine ca_goto (tgt := 172) h dX12_query_168 (by decide) ?_
                  refine ca_ireturn h hR rfl dX12_query_172 ?_
                  refine ⟨by rw [if_pos hz0', e_qry_1, if_neg (hf8 hfl), ← hA, hAX]; unfold e_fst; rw [hkq hfl]; rfl, rfl, _, rfl, ?_, ?_⟩
                  · rw [na_k (by decide), nw_at, if_neg (by omega), nw_at, if_neg (by omega), hcA.2 6 (by omega), nw_at, if_neg (by omega), nw_at, if_pos ⟨rfl, rfl, rfl⟩]
                  · rw [← hBq]
                    exact r_J_33 (r_J_close (q := B) (r_J_tc (p := nw (nw (μ 16) 22 0 6 0) 22 0 24 0) (r_J_24 (r_J_th hJ)) hcA))
              · exact absurd c_132 (by rw [show n 0 0 2 = nI (k_mc n) from (nI_cn h02).symm]; exact nI_nlt (by omega) (by omega))
            | succ jj ih_124 =>
              intro m hn x3 e3 x4 e4 g hfc hkq mm em
              have hn1 : m < k_mc n := by omega
              subst e3 e4 em
              refine ca_iload h dX12_query_124 rfl ?_
              refine ca_aload_nr h dX12_query_126 rfl ?_
              refine gs_X12_9 h hs ⟨rfl, rfl⟩ dX12_query_127 ?_
              refine ca_iconst h dX12_query_130 ik_2 ?_
              refine ca_iald h rfl (hs.1 _ _ _ ⟨rfl, rfl⟩) (vp_in_nI (n := 2) (N := 1302) (by decide) (by decide)) dX12_query_131 ?_
              refine ca_top (show _ = n 0 0 2 by rw [show Int32.toNatClampNeg 2 = 2 from rfl, up_s, na_k (by decide), nw_k (by decide), nw_k (by decide), hcA.1 23 (by decide) (by decide), nw_k (by decide), nw_k (by decide)]; exact hN.1 2 (by decide)) ?_
              refine ca_icmp_ge (tgt := 163) h dX12_query_132 (by decide) (fun c_132 => ?_) (fun c_132 => ?_)
              · exact absurd (by rw [show n 0 0 2 = nI (k_mc n) from (nI_cn h02).symm]; exact nI_lt hn1 (by omega)) c_132
              ·
                refine ca_aload_nr h dX12_query_135 rfl ?_
                refine ca_iload h dX12_query_136 rfl ?_
                refine ca_vXi h hG ml_X12_417 (c_X12_holds hs (n := n) (m := m) (by rw [up_s, na_k (by decide), nw_k (by decide), nw_k (by decide), hcA.1 23 (by decide) (by decide), nw_k (by decide), nw_k (by decide)]; exact hN) hn1 (C := C) (v := r_bit X9 m) hw1.2.1 (by rw [up_s, na_k (by decide), nw_at, if_neg (by omega), nw_at, if_neg (by omega)]; exact hw1.1) (fun k hk => by rw [up_s, na_k (by decide), nw_k (by decide), nw_k (by decide)]; exact hw1.2.2 k hk) (by rw [hbits m hn1 []])) (ci := 12) rfl rfl rfl (hs.1 _ _ _ ⟨rfl, rfl⟩) rfl rfl rfl rfl ⟨Nat.le_refl _, Nat.le_refl _⟩ rfl dX12_query_138 ?_
                intro μ9 hμ9
                obtain ⟨g2, rfl⟩ := hμ9
                rw [up_s, up_up, na_na]
                refine ca_if_ne (tgt := 147) h dX12_query_141 (by decide) (fun c_141 => ?_) (fun c_141 => ?_)
                ·
                  have hbit : X9.testBit m = true := (r_bit_1 X9 m).mp (of_decide_eq_true (bI_n0.mp c_141))
                  refine ca_iload_n h dX12_query_147 rfl ?_
                  refine ca_if_eq (tgt := 154) h dX12_query_148 (by decide) (fun c_148 => ?_) (fun c_148 => ?_)
                  ·
                    have hnf : ¬ t_is q0 9 = true := fun z => bI_n0.mpr z c_148
                    refine ca_iinc h dX12_query_154 rfl ik_1 rfl ?_
                    refine ca_iinc h dX12_query_157 rfl ik_1 rfl ?_
                    refine ca_goto (tgt := 124) h dX12_query_160 (by decide) ?_
                    refine ca_pick [2, 3, 4, 1, 0] rfl ?_
                    exact ih_124 (m + 1) (by omega) _ (by rw [nI_1]; show nI (r_cn (fun i => X9.testBit i) m + 1) = nI (r_cn (fun i => X9.testBit i) m + (if X9.testBit m = true then 1 else 0)); rw [if_pos hbit]) _ (nI_1 m) g2 (Or.inl hnf) (fun z => absurd z hnf) _ rfl
                  ·
                    have hfl : t_is q0 9 = true := bI_n0.mp c_148
                    refine ca_iload h dX12_query_151 rfl ?_
                    refine ca_ireturn h hR rfl dX12_query_153 ?_
                    refine ⟨by rw [if_pos hz0', e_qry_1, if_neg (hf8 hfl), ← hA, hAX]; unfold e_fst; rw [hkq hfl, kq_yes hn (by have hq : ¬ nI X9 &&& e_bit m = 0 := fun z => (by have := (e_bit_t hX12 (by omega)).mp z; rw [this] at hbit; exact absurd hbit (by decide)); exact decide_eq_true hq)], rfl, _, rfl, ?_, ?_⟩
                    · rw [na_k (by decide), nw_at, if_neg (by omega), nw_at, if_neg (by omega), hcA.2 6 (by omega), nw_at, if_neg (by omega), nw_at, if_pos ⟨rfl, rfl, rfl⟩]
                    · rw [← hBq]
                      exact r_J_33 (r_J_close (q := B) (r_J_tc (p := nw (nw (μ 16) 22 0 6 0) 22 0 24 0) (r_J_24 (r_J_th hJ)) hcA))
                ·
                  refine ca_goto (tgt := 157) h dX12_query_144 (by decide) ?_
                  have hbit : X9.testBit m = false := Bool.eq_false_iff.mpr (fun z => of_decide_eq_false (bI_0.mp c_141) ((r_bit_1 X9 m).mpr z))
                  refine ca_iinc h dX12_query_157 rfl ik_1 rfl ?_
                  refine ca_goto (tgt := 124) h dX12_query_160 (by decide) ?_
                  refine ca_pick [1, 2, 3, 4, 0] rfl ?_
                  exact ih_124 (m + 1) (by omega) _ (by show nI (r_cn (fun i => X9.testBit i) m) = nI (r_cn (fun i => X9.testBit i) m + (if X9.testBit m = true then 1 else 0)); rw [if_neg (by rw [hbit]; decide)]; rfl) _ (nI_1 m) g2 (hfc.imp id (fun h i hi => by rcases Nat.lt_succ_iff_lt_or_eq.mp hi with z | z; exact h i z; rw [z]; exact hbit)) (fun z => (hkq z).trans (kq_no hn (fun y => of_decide_eq_true y ((e_bit_t hX12 (by omega)).mpr hbit)))) _ rfl
          refine ca_pick [3, 4, 2, 1, 0] rfl ?_
          exact loop_124 (k_mc n) 0 (Nat.zero_add _) _ rfl _ rfl (p5 33 0) (Or.inr (fun i hi => absurd hi (Nat.not_lt_zero _))) (fun _ => rfl) _ (congrArg (up μ 16) (by rw [show p5 33 0 = (nw (nw p5 22 0 12 0) 22 0 19 (if B 12 0 1 = 0 then -1 else B 12 0 5)) 33 0 from (by rw [nw_k (by decide), nw_k (by decide)]), na_id]))
        ·
          refine ca_ldcw h kw_1906 dX12_query_110 ?_
          refine ca_aload_nr h dX12_query_113 rfl ?_
          refine gi_X12_301 h (hs.1 _ _ _ ⟨rfl, rfl⟩) dX12_query_114 ?_
          refine ca_top (show _ = B 12 0 1 by rw [up_s, nw_at, if_neg (by omega), nw_at, if_neg (by omega)]; exact hX5.1.2.2.1) ?_
          refine ca_isub h dX12_query_117 ?_
          refine ca_ireturn h hR rfl dX12_query_118 ?_
          rw [← hBq]
          refine ⟨by rw [if_neg c_107], rfl, _, rfl, ?_, ?_⟩
          · rw [nw_at, if_neg (by omega), nw_at, if_neg (by omega), hcA.2 6 (by omega), nw_at, if_neg (by omega), nw_at, if_pos ⟨rfl, rfl, rfl⟩]
          · exact r_J_close (q := B) (r_J_tc (p := nw (nw (μ 16) 22 0 6 0) 22 0 24 0) (r_J_24 (r_J_th hJ)) hcA)
      ·
        refine ca_aload_nr h dX12_query_87 rfl ?_
        refine gi_X12_292 h (hs.1 _ _ _ ⟨rfl, rfl⟩) dX12_query_88 ?_
        refine ca_top (show _ = r_tok (A.2 12 0 7) by rw [up_s]; exact hX4.2.2.2.1) ?_
        refine ca_if_ne (tgt := 98) h dX12_query_91 (by decide) (fun c_91 => ?_) (fun c_91 => ?_)
        ·
          refine ca_iconst h dX12_query_98 ik_0 ?_
          have e99 : r_chk A.2 0 1 = (e_qry n q0).2 := by rw [e_qry_2, ← hA, t_go_e hX4, if_pos (decide_eq_true ⟨c_84, Classical.byContradiction fun z => c_91 ((r_tok0 hX4).mpr z)⟩)]; rfl
          refine ca_iconst h dX12_query_99 ik_1 ?_
          refine ca_vXv h hG ml_X12_328 (c_X12_check hs (q := A.2) (by rw [up_s]; exact hX4)) (ci := 12) rfl rfl rfl (hs.1 _ _ _ ⟨rfl, rfl⟩) rfl rfl rfl rfl ⟨Nat.le_refl _, Nat.le_refl _⟩ rfl dX12_query_100 ?_
          intro μ9 hμ9
          obtain ⟨p5, rfl, hX5, hf5⟩ := hμ9
          rw [e99] at hX5
          rw [up_up]
          rw [up_s] at hf5
          obtain ⟨B, hBq⟩ : ∃ z, z = (e_qry n q0).2 := ⟨_, rfl⟩
          rw [← hBq] at hX5
          have hcA : r_tc (nw (nw (μ 16) 22 0 6 0) 22 0 24 0) p5 := r_tc_tr (r_tc_tr (r_tc_tr r_tc_20 (r_tc_tf hfA)) hc4) (r_tc_tf hf5)
          refine ca_aload_nr h dX12_query_103 rfl ?_
          refine ca_vi h hG ml_X12_374 (c_X12_finish_ hs (q := B) (by rw [up_s]; exact hX5)) (ci := 12) rfl rfl rfl (hs.1 _ _ _ ⟨rfl, rfl⟩) rfl rfl rfl rfl ⟨Nat.le_refl _, Nat.le_refl _⟩ rfl dX12_query_104 ?_
          rw [up_s, up_up]
          refine ca_if_eq (tgt := 119) h dX12_query_107 (by decide) (fun c_107 => ?_) (fun c_107 => ?_)
          ·
            have hz0 : B 12 0 1 = 0 := c_107
            have hz0' : (e_qry n q0).2 12 0 1 = 0 := by rw [← hBq]; exact hz0
            have hA0 : A.2 12 0 1 = 0 := by
              rw [e_qry_2, ← hA] at hz0'
              split at hz0'
              · exact absurd hz0' (t_fail_ne (by decide))
              · exact hz0'
            obtain ⟨w0, w1, ⟨X9, hXc, hAX, hbits⟩, w3⟩ := hC4 hA0
            rw [List.nil_append] at w1
            have hX12 : X9 < 4096 := Nat.lt_of_lt_of_le hXc (p12 hmc)
            have hh1 : (e_h1 q0) 12 0 1 = 0 := (t_adv_1 _).symm.trans w0
            have hf8 : t_is q0 9 = true → ¬ t_is q0 8 = true := fun z => t_is_ne z (by decide)
            have hm8 : ¬ t_is q0 9 = true → t_is q0 8 = true := fun z => Classical.byContradiction fun y => by
              rw [e_h1_e, if_neg y, if_neg z] at hh1
              exact absurd hh1 (t_fail_ne (by decide))
            have hw1 : r_C p5 C := r_C_tf w1 hf5
            refine ca_iconst h dX12_query_119 ik_0 ?_
            refine ca_istore_n h dX12_query_120 rfl ?_
            refine ca_iconst h dX12_query_121 ik_0 ?_
            refine ca_istore h dX12_query_122 rfl ?_
            have loop_124 : ∀ (jj m : Nat), m + jj = k_mc n → ∀ (x3 : Int32) (e3 : x3 = nI (r_cn (fun i => X9.testBit i) m)) (x4 : Int32) (e4 : x4 = nI m) (g : Nat → Int32) (hfc : ¬ t_is q0 9 = true ∨ ∀ i, i < m → X9.testBit i = false) (hkq : t_is q0 9 = true → kq (fun i => decide (¬ nI X9 &&& e_bit i = 0)) (k_mc n) (k_mc n) = kq (fun i => decide (¬ nI X9 &&& e_bit i = 0)) (k_mc n) jj) (mm : ch_M) (em : mm = up μ 16 (na (nw (nw p5 22 0 12 0) 22 0 19 (if B 12 0 1 = 0 then -1 else B 12 0 5)) 33 0 g)), ch_W X E 5 S mm 0 0 124 [(0, .ref (S.1 16 22 0)), (1, .int (nI e)), (2, .int (bI (t_is q0 9))), (3, .int x3), (4, .int x4)] [] := by
              intro jj
              induction jj with
              | zero =>
                intro m hn x3 e3 x4 e4 g hfc hkq mm em
                have hn : m = k_mc n := by omega
                subst e3 e4 em
                refine ca_iload h dX12_query_124 rfl ?_
                refine ca_aload_nr h dX12_query_126 rfl ?_
                refine gs_X12_9 h hs ⟨rfl, rfl⟩ dX12_query_127 ?_
                refine ca_iconst h dX12_query_130 ik_2 ?_
                refine ca_iald h rfl (hs.1 _ _ _ ⟨rfl, rfl⟩) (vp_in_nI (n := 2) (N := 1302) (by decide) (by decide)) dX12_query_131 ?_
                refine ca_top (show _ = n 0 0 2 by rw [show Int32.toNatClampNeg 2 = 2 from rfl, up_s, na_k (by decide), nw_k (by decide), nw_k (by decide), hcA.1 23 (by decide) (by decide), nw_k (by decide), nw_k (by decide)]; exact hN.1 2 (by decide)) ?_
                refine ca_icmp_ge (tgt := 163) h dX12_query_132 (by decide) (fun c_132 => ?_) (fun c_132 => ?_)
                ·
                  refine ca_iload_n h dX12_query_163 rfl ?_
                  refine ca_if_eq (tgt := 171) h dX12_query_164 (by decide) (fun c_164 => ?_) (fun c_164 => ?_)
                  ·
                    have hfl : ¬ t_is q0 9 = true := fun z => bI_n0.mpr z c_164
                    refine ca_iload_n h dX12_query_171 rfl ?_
                    refine ca_ireturn h hR rfl dX12_query_172 ?_
                    refine ⟨by rw [if_pos hz0', e_qry_1, if_pos (hm8 hfl), ← hA, hAX, k_bc_b hmc hXc, hn], rfl, _, rfl, ?_, ?_⟩
                    · rw [na_k (by decide), nw_at, if_neg (by omega), nw_at, if_neg (by omega), hcA.2 6 (by omega), nw_at, if_neg (by omega), nw_at, if_pos ⟨rfl, rfl, rfl⟩]
                    · rw [← hBq]
                      exact r_J_33 (r_J_close (q := B) (r_J_tc (p := nw (nw (μ 16) 22 0 6 0) 22 0 24 0) (r_J_24 (r_J_th hJ)) hcA))
                  ·
                    have hfl : t_is q0 9 = true := bI_n0.mp c_164
                    refine ca_iconst h dX12_query_167 ik_m1 ?_
                    refine ca_goto (tgt := 172) h dX12_query_168 (by decide) ?_
                    refine ca_ireturn h hR rfl dX12_query_172 ?_
                    refine ⟨by rw [if_pos hz0', e_qry_1, if_neg (hf8 hfl), ← hA, hAX]; unfold e_fst; rw [hkq hfl]; rfl, rfl, _, rfl, ?_, ?_⟩
                    · rw [na_k (by decide), nw_at, if_neg (by omega), nw_at, if_neg (by omega), hcA.2 6 (by omega), nw_at, if_neg (by omega), nw_at, if_pos ⟨rfl, rfl, rfl⟩]
                    · rw [← hBq]
                      exact r_J_33 (r_J_close (q := B) (r_J_tc (p := nw (nw (μ 16) 22 0 6 0) 22 0 24 0) (r_J_24 (r_J_th hJ)) hcA))
                · exact absurd c_132 (by rw [show n 0 0 2 = nI (k_mc n) from (nI_cn h02).symm]; exact nI_nlt (by omega) (by omega))
              | succ jj ih_124 =>
                intro m hn x3 e3 x4 e4 g hfc hkq mm em
                have hn1 : m < k_mc n := by omega
                subst e3 e4 em
                refine ca_iload h dX12_query_124 rfl ?_
                refine ca_aload_nr h dX12_query_126 rfl ?_
                refine gs_X12_9 h hs ⟨rfl, rfl⟩ dX12_query_127 ?_
                refine ca_iconst h dX12_query_130 ik_2 ?_
                refine ca_iald h rfl (hs.1 _ _ _ ⟨rfl, rfl⟩) (vp_in_nI (n := 2) (N := 1302) (by decide) (by decide)) dX12_query_131 ?_
                refine ca_top (show _ = n 0 0 2 by rw [show Int32.toNatClampNeg 2 = 2 from rfl, up_s, na_k (by decide), nw_k (by decide), nw_k (by decide), hcA.1 23 (by decide) (by decide), nw_k (by decide), nw_k (by decide)]; exact hN.1 2 (by decide)) ?_
                refine ca_icmp_ge (tgt := 163) h dX12_query_132 (by decide) (fun c_132 => ?_) (fun c_132 => ?_)
                · exact absurd (by rw [show n 0 0 2 = nI (k_mc n) from (nI_cn h02).symm]; exact nI_lt hn1 (by omega)) c_132
                ·
                  refine ca_aload_nr h dX12_query_135 rfl ?_
                  refine ca_iload h dX12_query_136 rfl ?_
                  refine ca_vXi h hG ml_X12_417 (c_X12_holds hs (n := n) (m := m) (by rw [up_s, na_k (by decide), nw_k (by decide), nw_k (by decide), hcA.1 23 (by decide) (by decide), nw_k (by decide), nw_k (by decide)]; exact hN) hn1 (C := C) (v := r_bit X9 m) hw1.2.1 (by rw [up_s, na_k (by decide), nw_at, if_neg (by omega), nw_at, if_neg (by omega)]; exact hw1.1) (fun k hk => by rw [up_s, na_k (by decide), nw_k (by decide), nw_k (by decide)]; exact hw1.2.2 k hk) (by rw [hbits m hn1 []])) (ci := 12) rfl rfl rfl (hs.1 _ _ _ ⟨rfl, rfl⟩) rfl rfl rfl rfl ⟨Nat.le_refl _, Nat.le_refl _⟩ rfl dX12_query_138 ?_
                  intro μ9 hμ9
                  obtain ⟨g2, rfl⟩ := hμ9
                  rw [up_s, up_up, na_na]
                  refine ca_if_ne (tgt := 147) h dX12_query_141 (by decide) (fun c_141 => ?_) (fun c_141 => ?_)
                  ·
                    have hbit : X9.testBit m = true := (r_bit_1 X9 m).mp (of_decide_eq_true (bI_n0.mp c_141))
                    refine ca_iload_n h dX12_query_147 rfl ?_
                    refine ca_if_eq (tgt := 154) h dX12_query_148 (by decide) (fun c_148 => ?_) (fun c_148 => ?_)
                    ·
                      have hnf : ¬ t_is q0 9 = true := fun z => bI_n0.mpr z c_148
                      refine ca_iinc h dX12_query_154 rfl ik_1 rfl ?_
                      refine ca_iinc h dX12_query_157 rfl ik_1 rfl ?_
                      refine ca_goto (tgt := 124) h dX12_query_160 (by decide) ?_
                      refine ca_pick [2, 3, 4, 1, 0] rfl ?_
                      exact ih_124 (m + 1) (by omega) _ (by rw [nI_1]; show nI (r_cn (fun i => X9.testBit i) m + 1) = nI (r_cn (fun i => X9.testBit i) m + (if X9.testBit m = true then 1 else 0)); rw [if_pos hbit]) _ (nI_1 m) g2 (Or.inl hnf) (fun z => absurd z hnf) _ rfl
                    ·
                      have hfl : t_is q0 9 = true := bI_n0.mp c_148
                      refine ca_iload h dX12_query_151 rfl ?_
                      refine ca_ireturn h hR rfl dX12_query_153 ?_
                      refine ⟨by rw [if_pos hz0', e_qry_1, if_neg (hf8 hfl), ← hA, hAX]; unfold e_fst; rw [hkq hfl, kq_yes hn (by have hq : ¬ nI X9 &&& e_bit m = 0 := fun z => (by have := (e_bit_t hX12 (by omega)).mp z; rw [this] at hbit; exact absurd hbit (by decide)); exact decide_eq_true hq)], rfl, _, rfl, ?_, ?_⟩
                      · rw [na_k (by decide), nw_at, if_neg (by omega), nw_at, if_neg (by omega), hcA.2 6 (by omega), nw_at, if_neg (by omega), nw_at, if_pos ⟨rfl, rfl, rfl⟩]
                      · rw [← hBq]
                        exact r_J_33 (r_J_close (q := B) (r_J_tc (p := nw (nw (μ 16) 22 0 6 0) 22 0 24 0) (r_J_24 (r_J_th hJ)) hcA))
                  ·
                    refine ca_goto (tgt := 157) h dX12_query_144 (by decide) ?_
                    have hbit : X9.testBit m = false := Bool.eq_false_iff.mpr (fun z => of_decide_eq_false (bI_0.mp c_141) ((r_bit_1 X9 m).mpr z))
                    refine ca_iinc h dX12_query_157 rfl ik_1 rfl ?_
                    refine ca_goto (tgt := 124) h dX12_query_160 (by decide) ?_
                    refine ca_pick [1, 2, 3, 4, 0] rfl ?_
                    exact ih_124 (m + 1) (by omega) _ (by show nI (r_cn (fun i => X9.testBit i) m) = nI (r_cn (fun i => X9.testBit i) m + (if X9.testBit m = true then 1 else 0)); rw [if_neg (by rw [hbit]; decide)]; rfl) _ (nI_1 m) g2 (hfc.imp id (fun h i hi => by rcases Nat.lt_succ_iff_lt_or_eq.mp hi with z | z; exact h i z; rw [z]; exact hbit)) (fun z => (hkq z).trans (kq_no hn (fun y => of_decide_eq_true y ((e_bit_t hX12 (by omega)).mpr hbit)))) _ rfl
            refine ca_pick [3, 4, 2, 1, 0] rfl ?_
            exact loop_124 (k_mc n) 0 (Nat.zero_add _) _ rfl _ rfl (p5 33 0) (Or.inr (fun i hi => absurd hi (Nat.not_lt_zero _))) (fun _ => rfl) _ (congrArg (up μ 16) (by rw [show p5 33 0 = (nw (nw p5 22 0 12 0) 22 0 19 (if B 12 0 1 = 0 then -1 else B 12 0 5)) 33 0 from (by rw [nw_k (by decide), nw_k (by decide)]), na_id]))
          ·
            refine ca_ldcw h kw_1906 dX12_query_110 ?_
            refine ca_aload_nr h dX12_query_113 rfl ?_
            refine gi_X12_301 h (hs.1 _ _ _ ⟨rfl, rfl⟩) dX12_query_114 ?_
            refine ca_top (show _ = B 12 0 1 by rw [up_s, nw_at, if_neg (by omega), nw_at, if_neg (by omega)]; exact hX5.1.2.2.1) ?_
            refine ca_isub h dX12_query_117 ?_
            refine ca_ireturn h hR rfl dX12_query_118 ?_
            rw [← hBq]
            refine ⟨by rw [if_neg c_107], rfl, _, rfl, ?_, ?_⟩
            · rw [nw_at, if_neg (by omega), nw_at, if_neg (by omega), hcA.2 6 (by omega), nw_at, if_neg (by omega), nw_at, if_pos ⟨rfl, rfl, rfl⟩]
            · exact r_J_close (q := B) (r_J_tc (p := nw (nw (μ 16) 22 0 6 0) 22 0 24 0) (r_J_24 (r_J_th hJ)) hcA)
        ·
          refine ca_iconst h dX12_query_94 ik_1 ?_
          refine ca_goto (tgt := 99) h dX12_query_95 (by decide) ?_
          have e99 : r_chk A.2 1 1 = (e_qry n q0).2 := by rw [e_qry_2, ← hA, t_go_e hX4, if_neg (fun z => (r_tok0 hX4).mp c_91 (of_decide_eq_true z).2)]; rfl
          refine ca_iconst h dX12_query_99 ik_1 ?_
          refine ca_vXv h hG ml_X12_328 (c_X12_check hs (q := A.2) (by rw [up_s]; exact hX4)) (ci := 12) rfl rfl rfl (hs.1 _ _ _ ⟨rfl, rfl⟩) rfl rfl rfl rfl ⟨Nat.le_refl _, Nat.le_refl _⟩ rfl dX12_query_100 ?_
          intro μ9 hμ9
          obtain ⟨p5, rfl, hX5, hf5⟩ := hμ9
          rw [e99] at hX5
          rw [up_up]
          rw [up_s] at hf5
          obtain ⟨B, hBq⟩ : ∃ z, z = (e_qry n q0).2 := ⟨_, rfl⟩
          rw [← hBq] at hX5
          have hcA : r_tc (nw (nw (μ 16) 22 0 6 0) 22 0 24 0) p5 := r_tc_tr (r_tc_tr (r_tc_tr r_tc_20 (r_tc_tf hfA)) hc4) (r_tc_tf hf5)
          refine ca_aload_nr h dX12_query_103 rfl ?_
          refine ca_vi h hG ml_X12_374 (c_X12_finish_ hs (q := B) (by rw [up_s]; exact hX5)) (ci := 12) rfl rfl rfl (hs.1 _ _ _ ⟨rfl, rfl⟩) rfl rfl rfl rfl ⟨Nat.le_refl _, Nat.le_refl _⟩ rfl dX12_query_104 ?_
          rw [up_s, up_up]
          refine ca_if_eq (tgt := 119) h dX12_query_107 (by decide) (fun c_107 => ?_) (fun c_107 => ?_)
          ·
            have hz0 : B 12 0 1 = 0 := c_107
            have hz0' : (e_qry n q0).2 12 0 1 = 0 := by rw [← hBq]; exact hz0
            have hA0 : A.2 12 0 1 = 0 := by
              rw [e_qry_2, ← hA] at hz0'
              split at hz0'
              · exact absurd hz0' (t_fail_ne (by decide))
              · exact hz0'
            obtain ⟨w0, w1, ⟨X9, hXc, hAX, hbits⟩, w3⟩ := hC4 hA0
            rw [List.nil_append] at w1
            have hX12 : X9 < 4096 := Nat.lt_of_lt_of_le hXc (p12 hmc)
            have hh1 : (e_h1 q0) 12 0 1 = 0 := (t_adv_1 _).symm.trans w0
            have hf8 : t_is q0 9 = true → ¬ t_is q0 8 = true := fun z => t_is_ne z (by decide)
            have hm8 : ¬ t_is q0 9 = true → t_is q0 8 = true := fun z => Classical.byContradiction fun y => by
              rw [e_h1_e, if_neg y, if_neg z] at hh1
              exact absurd hh1 (t_fail_ne (by decide))
            have hw1 : r_C p5 C := r_C_tf w1 hf5
            refine ca_iconst h dX12_query_119 ik_0 ?_
            refine ca_istore_n h dX12_query_120 rfl ?_
            refine ca_iconst h dX12_query_121 ik_0 ?_
            refine ca_istore h dX12_query_122 rfl ?_
            have loop_124 : ∀ (jj m : Nat), m + jj = k_mc n → ∀ (x3 : Int32) (e3 : x3 = nI (r_cn (fun i => X9.testBit i) m)) (x4 : Int32) (e4 : x4 = nI m) (g : Nat → Int32) (hfc : ¬ t_is q0 9 = true ∨ ∀ i, i < m → X9.testBit i = false) (hkq : t_is q0 9 = true → kq (fun i => decide (¬ nI X9 &&& e_bit i = 0)) (k_mc n) (k_mc n) = kq (fun i => decide (¬ nI X9 &&& e_bit i = 0)) (k_mc n) jj) (mm : ch_M) (em : mm = up μ 16 (na (nw (nw p5 22 0 12 0) 22 0 19 (if B 12 0 1 = 0 then -1 else B 12 0 5)) 33 0 g)), ch_W X E 5 S mm 0 0 124 [(0, .ref (S.1 16 22 0)), (1, .int (nI e)), (2, .int (bI (t_is q0 9))), (3, .int x3), (4, .int x4)] [] := by
              intro jj
              induction jj with
              | zero =>
                intro m hn x3 e3 x4 e4 g hfc hkq mm em
                have hn : m = k_mc n := by omega
                subst e3 e4 em
                refine ca_iload h dX12_query_124 rfl ?_
                refine ca_aload_nr h dX12_query_126 rfl ?_
                refine gs_X12_9 h hs ⟨rfl, rfl⟩ dX12_query_127 ?_
                refine ca_iconst h dX12_query_130 ik_2 ?_
                refine ca_iald h rfl (hs.1 _ _ _ ⟨rfl, rfl⟩) (vp_in_nI (n := 2) (N := 1302) (by decide) (by decide)) dX12_query_131 ?_
                refine ca_top (show _ = n 0 0 2 by rw [show Int32.toNatClampNeg 2 = 2 from rfl, up_s, na_k (by decide), nw_k (by decide), nw_k (by decide), hcA.1 23 (by decide) (by decide), nw_k (by decide), nw_k (by decide)]; exact hN.1 2 (by decide)) ?_
                refine ca_icmp_ge (tgt := 163) h dX12_query_132 (by decide) (fun c_132 => ?_) (fun c_132 => ?_)
                ·
                  refine ca_iload_n h dX12_query_163 rfl ?_
                  refine ca_if_eq (tgt := 171) h dX12_query_164 (by decide) (fun c_164 => ?_) (fun c_164 => ?_)
                  ·
                    have hfl : ¬ t_is q0 9 = true := fun z => bI_n0.mpr z c_164
                    refine ca_iload_n h dX12_query_171 rfl ?_
                    refine ca_ireturn h hR rfl dX12_query_172 ?_
                    refine ⟨by rw [if_pos hz0', e_qry_1, if_pos (hm8 hfl), ← hA, hAX, k_bc_b hmc hXc, hn], rfl, _, rfl, ?_, ?_⟩
                    · rw [na_k (by decide), nw_at, if_neg (by omega), nw_at, if_neg (by omega), hcA.2 6 (by omega), nw_at, if_neg (by omega), nw_at, if_pos ⟨rfl, rfl, rfl⟩]
                    · rw [← hBq]
                      exact r_J_33 (r_J_close (q := B) (r_J_tc (p := nw (nw (μ 16) 22 0 6 0) 22 0 24 0) (r_J_24 (r_J_th hJ)) hcA))
                  ·
                    have hfl : t_is q0 9 = true := bI_n0.mp c_164
                    refine ca_iconst h dX12_query_167 ik_m1 ?_
                    refine ca_goto (tgt := 172) h dX12_query_168 (by decide) ?_
                    refine ca_ireturn h hR rfl dX12_query_172 ?_
                    refine ⟨by rw [if_pos hz0', e_qry_1, if_neg (hf8 hfl), ← hA, hAX]; unfold e_fst; rw [hkq hfl]; rfl, rfl, _, rfl, ?_, ?_⟩
                    · rw [na_k (by decide), nw_at, if_neg (by omega), nw_at, if_neg (by omega), hcA.2 6 (by omega), nw_at, if_neg (by omega), nw_at, if_pos ⟨rfl, rfl, rfl⟩]
                    · rw [← hBq]
                      exact r_J_33 (r_J_close (q := B) (r_J_tc (p := nw (nw (μ 16) 22 0 6 0) 22 0 24 0) (r_J_24 (r_J_th hJ)) hcA))
                · exact absurd c_132 (by rw [show n 0 0 2 = nI (k_mc n) from (nI_cn h02).symm]; exact nI_nlt (by omega) (by omega))
              | succ jj ih_124 =>
                intro m hn x3 e3 x4 e4 g hfc hkq mm em
                have hn1 : m < k_mc n := by omega
                subst e3 e4 em
                refine ca_iload h dX12_query_124 rfl ?_
                refine ca_aload_nr h dX12_query_126 rfl ?_
                refine gs_X12_9 h hs ⟨rfl, rfl⟩ dX12_query_127 ?_
                refine ca_iconst h dX12_query_130 ik_2 ?_
                refine ca_iald h rfl (hs.1 _ _ _ ⟨rfl, rfl⟩) (vp_in_nI (n := 2) (N := 1302) (by decide) (by decide)) dX12_query_131 ?_
                refine ca_top (show _ = n 0 0 2 by rw [show Int32.toNatClampNeg 2 = 2 from rfl, up_s, na_k (by decide), nw_k (by decide), nw_k (by decide), hcA.1 23 (by decide) (by decide), nw_k (by decide), nw_k (by decide)]; exact hN.1 2 (by decide)) ?_
                refine ca_icmp_ge (tgt := 163) h dX12_query_132 (by decide) (fun c_132 => ?_) (fun c_132 => ?_)
                · exact absurd (by rw [show n 0 0 2 = nI (k_mc n) from (nI_cn h02).symm]; exact nI_lt hn1 (by omega)) c_132
                ·
                  refine ca_aload_nr h dX12_query_135 rfl ?_
                  refine ca_iload h dX12_query_136 rfl ?_
                  refine ca_vXi h hG ml_X12_417 (c_X12_holds hs (n := n) (m := m) (by rw [up_s, na_k (by decide), nw_k (by decide), nw_k (by decide), hcA.1 23 (by decide) (by decide), nw_k (by decide), nw_k (by decide)]; exact hN) hn1 (C := C) (v := r_bit X9 m) hw1.2.1 (by rw [up_s, na_k (by decide), nw_at, if_neg (by omega), nw_at, if_neg (by omega)]; exact hw1.1) (fun k hk => by rw [up_s, na_k (by decide), nw_k (by decide), nw_k (by decide)]; exact hw1.2.2 k hk) (by rw [hbits m hn1 []])) (ci := 12) rfl rfl rfl (hs.1 _ _ _ ⟨rfl, rfl⟩) rfl rfl rfl rfl ⟨Nat.le_refl _, Nat.le_refl _⟩ rfl dX12_query_138 ?_
                  intro μ9 hμ9
                  obtain ⟨g2, rfl⟩ := hμ9
                  rw [up_s, up_up, na_na]
                  refine ca_if_ne (tgt := 147) h dX12_query_141 (by decide) (fun c_141 => ?_) (fun c_141 => ?_)
                  ·
                    have hbit : X9.testBit m = true := (r_bit_1 X9 m).mp (of_decide_eq_true (bI_n0.mp c_141))
                    refine ca_iload_n h dX12_query_147 rfl ?_
                    refine ca_if_eq (tgt := 154) h dX12_query_148 (by decide) (fun c_148 => ?_) (fun c_148 => ?_)
                    ·
                      have hnf : ¬ t_is q0 9 = true := fun z => bI_n0.mpr z c_148
                      refine ca_iinc h dX12_query_154 rfl ik_1 rfl ?_
                      refine ca_iinc h dX12_query_157 rfl ik_1 rfl ?_
                      refine ca_goto (tgt := 124) h dX12_query_160 (by decide) ?_
                      refine ca_pick [2, 3, 4, 1, 0] rfl ?_
                      exact ih_124 (m + 1) (by omega) _ (by rw [nI_1]; show nI (r_cn (fun i => X9.testBit i) m + 1) = nI (r_cn (fun i => X9.testBit i) m + (if X9.testBit m = true then 1 else 0)); rw [if_pos hbit]) _ (nI_1 m) g2 (Or.inl hnf) (fun z => absurd z hnf) _ rfl
                    ·
                      have hfl : t_is q0 9 = true := bI_n0.mp c_148
                      refine ca_iload h dX12_query_151 rfl ?_
                      refine ca_ireturn h hR rfl dX12_query_153 ?_
                      refine ⟨by rw [if_pos hz0', e_qry_1, if_neg (hf8 hfl), ← hA, hAX]; unfold e_fst; rw [hkq hfl, kq_yes hn (by have hq : ¬ nI X9 &&& e_bit m = 0 := fun z => (by have := (e_bit_t hX12 (by omega)).mp z; rw [this] at hbit; exact absurd hbit (by decide)); exact decide_eq_true hq)], rfl, _, rfl, ?_, ?_⟩
                      · rw [na_k (by decide), nw_at, if_neg (by omega), nw_at, if_neg (by omega), hcA.2 6 (by omega), nw_at, if_neg (by omega), nw_at, if_pos ⟨rfl, rfl, rfl⟩]
                      · rw [← hBq]
                        exact r_J_33 (r_J_close (q := B) (r_J_tc (p := nw (nw (μ 16) 22 0 6 0) 22 0 24 0) (r_J_24 (r_J_th hJ)) hcA))
                  ·
                    refine ca_goto (tgt := 157) h dX12_query_144 (by decide) ?_
                    have hbit : X9.testBit m = false := Bool.eq_false_iff.mpr (fun z => of_decide_eq_false (bI_0.mp c_141) ((r_bit_1 X9 m).mpr z))
                    refine ca_iinc h dX12_query_157 rfl ik_1 rfl ?_
                    refine ca_goto (tgt := 124) h dX12_query_160 (by decide) ?_
                    refine ca_pick [1, 2, 3, 4, 0] rfl ?_
                    exact ih_124 (m + 1) (by omega) _ (by show nI (r_cn (fun i => X9.testBit i) m) = nI (r_cn (fun i => X9.testBit i) m + (if X9.testBit m = true then 1 else 0)); rw [if_neg (by rw [hbit]; decide)]; rfl) _ (nI_1 m) g2 (hfc.imp id (fun h i hi => by rcases Nat.lt_succ_iff_lt_or_eq.mp hi with z | z; exact h i z; rw [z]; exact hbit)) (fun z => (hkq z).trans (kq_no hn (fun y => of_decide_eq_true y ((e_bit_t hX12 (by omega)).mpr hbit)))) _ rfl
            refine ca_pick [3, 4, 2, 1, 0] rfl ?_
            exact loop_124 (k_mc n) 0 (Nat.zero_add _) _ rfl _ rfl (p5 33 0) (Or.inr (fun i hi => absurd hi (Nat.not_lt_zero _))) (fun _ => rfl) _ (congrArg (up μ 16) (by rw [show p5 33 0 = (nw (nw p5 22 0 12 0) 22 0 19 (if B 12 0 1 = 0 then -1 else B 12 0 5)) 33 0 from (by rw [nw_k (by decide), nw_k (by decide)]), na_id]))
          ·
            refine ca_ldcw h kw_1906 dX12_query_110 ?_
            refine ca_aload_nr h dX12_query_113 rfl ?_
            refine gi_X12_301 h (hs.1 _ _ _ ⟨rfl, rfl⟩) dX12_query_114 ?_
            refine ca_top (show _ = B 12 0 1 by rw [up_s, nw_at, if_neg (by omega), nw_at, if_neg (by omega)]; exact hX5.1.2.2.1) ?_
            refine ca_isub h dX12_query_117 ?_
            refine ca_ireturn h hR rfl dX12_query_118 ?_
            rw [← hBq]
            refine ⟨by rw [if_neg c_107], rfl, _, rfl, ?_, ?_⟩
            · rw [nw_at, if_neg (by omega), nw_at, if_neg (by omega), hcA.2 6 (by omega), nw_at, if_neg (by omega), nw_at, if_pos ⟨rfl, rfl, rfl⟩]
            · exact r_J_close (q := B) (r_J_tc (p := nw (nw (μ 16) 22 0 6 0) 22 0 24 0) (r_J_24 (r_J_th hJ)) hcA)
    ·
      refine ca_aload_nr h dX12_query_52 rfl ?_
      refine ca_ldcws h (i := 414) (List.mem_of_getElem? (i := 37) rfl) dX12_query_53 ?_
      refine ca_vi h hG ml_X12_324 (c_X12_isWord hs (q := q0) (by rw [up_s]; exact hX0) (a := 8) (by decide) (by decide) (by decide)) (ci := 12) rfl rfl rfl (hs.1 _ _ _ ⟨rfl, rfl⟩) rfl rfl rfl rfl ⟨Nat.le_refl _, Nat.le_refl _⟩ rfl dX12_query_56 ?_
      refine ca_if_eq (tgt := 66) h dX12_query_59 (by decide) (fun c_59 => ?_) (fun c_59 => ?_)
      ·
        refine ca_iconst h dX12_query_66 ik_0 ?_
        have n9 : ¬ t_is q0 9 = true := fun z => bI_n0.mpr z c_49
        have n8 : ¬ t_is q0 8 = true := fun z => bI_n0.mpr z c_59
        have e67 : r_chk q0 0 1 = e_h1 q0 := by rw [e_h1_e, if_neg n8, if_neg n9]; rfl
        refine ca_iconst h dX12_query_67 ik_1 ?_
        refine ca_vXv h hG ml_X12_328 (c_X12_check hs (q := q0) (by rw [up_s]; exact hX0)) (ci := 12) rfl rfl rfl (hs.1 _ _ _ ⟨rfl, rfl⟩) rfl rfl rfl rfl ⟨Nat.le_refl _, Nat.le_refl _⟩ rfl dX12_query_68 ?_
        intro μ9 hμ9
        obtain ⟨p1, rfl, hX1, hf1⟩ := hμ9
        rw [e67] at hX1
        rw [up_up]
        rw [up_s] at hf1
        refine ca_aload_nr h dX12_query_71 rfl ?_
        refine ca_vXv h hG ml_X12_332 (c_X12_advance hs (q := e_h1 q0) (by rw [up_s]; exact hX1)) (ci := 12) rfl rfl rfl (hs.1 _ _ _ ⟨rfl, rfl⟩) rfl rfl rfl rfl ⟨Nat.le_refl _, Nat.le_refl _⟩ rfl dX12_query_72 ?_
        intro μ9 hμ9
        obtain ⟨p2, rfl, hX2, hf2⟩ := hμ9
        rw [up_up]
        rw [up_s] at hf2
        have hfA : r_tf (nw (nw (nw (μ 16) 22 0 6 0) 22 0 24 0) 22 0 20 0) p2 := r_tf_tr (r_tf_tr hf0 hf1) hf2
        have h20 : p2 22 0 20 = 0 := by rw [hfA.2 20 (by omega), nw_at, if_pos ⟨rfl, rfl, rfl⟩]
        have hh1e : t_e (e_h1 q0) = e := by
          rw [← hq0e, e_h1_e]
          split
          · rfl
          · first
              | (split; rfl; (unfold t_e; rw [t_fail_at (by decide)]))
              | rfl
              | (unfold t_e; rw [t_fail_at (by decide)])
        refine ca_aload_nr h dX12_query_75 rfl ?_
        refine ca_vXv h hG ml_X12_390 (c_X12_compileTest_o0 hs (q := t_adv (e_h1 q0)) (n := n) (by rw [up_s]; exact hX2) hmc h02 (by rw [t_adv_e, hh1e]; omega) (by rw [up_s]; exact h20) (cs := []) (fun _ => by rw [up_s]; exact ⟨⟨by rw [hfA.2 24 (by omega), nw_at, if_neg (by omega), nw_at, if_pos ⟨rfl, rfl, rfl⟩]; rfl, by decide, fun k hk => absurd hk (Nat.not_lt_zero _)⟩, Nat.zero_le _⟩)) (ci := 12) rfl rfl rfl (hs.1 _ _ _ ⟨rfl, rfl⟩) rfl rfl rfl rfl ⟨Nat.le_refl _, Nat.le_refl _⟩ rfl dX12_query_76 ?_
        intro μ9 hμ9
        obtain ⟨p4, C, rfl, hX4, hc4, h204, he4, hC4⟩ := hμ9
        rw [up_up]
        rw [up_s] at hc4
        rw [← e_h2_e] at hX4 he4 hC4
        obtain ⟨A, hA⟩ : ∃ z, z = e_h2 n q0 := ⟨_, rfl⟩
        rw [← hA] at hX4 he4 hC4
        refine ca_aload_nr h dX12_query_79 rfl ?_
        refine ca_aload_nr h dX12_query_80 rfl ?_
        refine gi_X12_301 h (hs.1 _ _ _ ⟨rfl, rfl⟩) dX12_query_81 ?_
        refine ca_top (show _ = A.2 12 0 1 by rw [up_s]; exact hX4.1.2.2.1) ?_
        refine ca_if_ne (tgt := 94) h dX12_query_84 (by decide) (fun c_84 => ?_) (fun c_84 => ?_)
        ·
          refine ca_iconst h dX12_query_94 ik_1 ?_
          refine ca_goto (tgt := 99) h dX12_query_95 (by decide) ?_
          have e99 : r_chk A.2 1 1 = (e_qry n q0).2 := by rw [e_qry_2, ← hA, t_go_e hX4, if_neg (fun z => c_84 (of_decide_eq_true z).1)]; rfl
          refine ca_iconst h dX12_query_99 ik_1 ?_
          refine ca_vXv h hG ml_X12_328 (c_X12_check hs (q := A.2) (by rw [up_s]; exact hX4)) (ci := 12) rfl rfl rfl (hs.1 _ _ _ ⟨rfl, rfl⟩) rfl rfl rfl rfl ⟨Nat.le_refl _, Nat.le_refl _⟩ rfl dX12_query_100 ?_
          intro μ9 hμ9
          obtain ⟨p5, rfl, hX5, hf5⟩ := hμ9
          rw [e99] at hX5
          rw [up_up]
          rw [up_s] at hf5
          obtain ⟨B, hBq⟩ : ∃ z, z = (e_qry n q0).2 := ⟨_, rfl⟩
          rw [← hBq] at hX5
          have hcA : r_tc (nw (nw (μ 16) 22 0 6 0) 22 0 24 0) p5 := r_tc_tr (r_tc_tr (r_tc_tr r_tc_20 (r_tc_tf hfA)) hc4) (r_tc_tf hf5)
          refine ca_aload_nr h dX12_query_103 rfl ?_
          refine ca_vi h hG ml_X12_374 (c_X12_finish_ hs (q := B) (by rw [up_s]; exact hX5)) (ci := 12) rfl rfl rfl (hs.1 _ _ _ ⟨rfl, rfl⟩) rfl rfl rfl rfl ⟨Nat.le_refl _, Nat.le_refl _⟩ rfl dX12_query_104 ?_
          rw [up_s, up_up]
          refine ca_if_eq (tgt := 119) h dX12_query_107 (by decide) (fun c_107 => ?_) (fun c_107 => ?_)
          ·
            have hz0 : B 12 0 1 = 0 := c_107
            have hz0' : (e_qry n q0).2 12 0 1 = 0 := by rw [← hBq]; exact hz0
            have hA0 : A.2 12 0 1 = 0 := by
              rw [e_qry_2, ← hA] at hz0'
              split at hz0'
              · exact absurd hz0' (t_fail_ne (by decide))
              · exact hz0'
            obtain ⟨w0, w1, ⟨X9, hXc, hAX, hbits⟩, w3⟩ := hC4 hA0
            rw [List.nil_append] at w1
            have hX12 : X9 < 4096 := Nat.lt_of_lt_of_le hXc (p12 hmc)
            have hh1 : (e_h1 q0) 12 0 1 = 0 := (t_adv_1 _).symm.trans w0
            have hf8 : t_is q0 9 = true → ¬ t_is q0 8 = true := fun z => t_is_ne z (by decide)
            have hm8 : ¬ t_is q0 9 = true → t_is q0 8 = true := fun z => Classical.byContradiction fun y => by
              rw [e_h1_e, if_neg y, if_neg z] at hh1
              exact absurd hh1 (t_fail_ne (by decide))
            have hw1 : r_C p5 C := r_C_tf w1 hf5
            refine ca_iconst h dX12_query_119 ik_0 ?_
            refine ca_istore_n h dX12_query_120 rfl ?_
            refine ca_iconst h dX12_query_121 ik_0 ?_
            refine ca_istore h dX12_query_122 rfl ?_
            have loop_124 : ∀ (jj m : Nat), m + jj = k_mc n → ∀ (x3 : Int32) (e3 : x3 = nI (r_cn (fun i => X9.testBit i) m)) (x4 : Int32) (e4 : x4 = nI m) (g : Nat → Int32) (hfc : ¬ t_is q0 9 = true ∨ ∀ i, i < m → X9.testBit i = false) (hkq : t_is q0 9 = true → kq (fun i => decide (¬ nI X9 &&& e_bit i = 0)) (k_mc n) (k_mc n) = kq (fun i => decide (¬ nI X9 &&& e_bit i = 0)) (k_mc n) jj) (mm : ch_M) (em : mm = up μ 16 (na (nw (nw p5 22 0 12 0) 22 0 19 (if B 12 0 1 = 0 then -1 else B 12 0 5)) 33 0 g)), ch_W X E 5 S mm 0 0 124 [(0, .ref (S.1 16 22 0)), (1, .int (nI e)), (2, .int (bI (t_is q0 9))), (3, .int x3), (4, .int x4)] [] := by
              intro jj
              induction jj with
              | zero =>
                intro m hn x3 e3 x4 e4 g hfc hkq mm em
                have hn : m = k_mc n := by omega
                subst e3 e4 em
                refine ca_iload h dX12_query_124 rfl ?_
                refine ca_aload_nr h dX12_query_126 rfl ?_
                refine gs_X12_9 h hs ⟨rfl, rfl⟩ dX12_query_127 ?_
                refine ca_iconst h dX12_query_130 ik_2 ?_
                refine ca_iald h rfl (hs.1 _ _ _ ⟨rfl, rfl⟩) (vp_in_nI (n := 2) (N := 1302) (by decide) (by decide)) dX12_query_131 ?_
                refine ca_top (show _ = n 0 0 2 by rw [show Int32.toNatClampNeg 2 = 2 from rfl, up_s, na_k (by decide), nw_k (by decide), nw_k (by decide), hcA.1 23 (by decide) (by decide), nw_k (by decide), nw_k (by decide)]; exact hN.1 2 (by decide)) ?_
                refine ca_icmp_ge (tgt := 163) h dX12_query_132 (by decide) (fun c_132 => ?_) (fun c_132 => ?_)
                ·
                  refine ca_iload_n h dX12_query_163 rfl ?_
                  refine ca_if_eq (tgt := 171) h dX12_query_164 (by decide) (fun c_164 => ?_) (fun c_164 => ?_)
                  ·
                    have hfl : ¬ t_is q0 9 = true := fun z => bI_n0.mpr z c_164
                    refine ca_iload_n h dX12_query_171 rfl ?_
                    refine ca_ireturn h hR rfl dX12_query_172 ?_
                    refine ⟨by rw [if_pos hz0', e_qry_1, if_pos (hm8 hfl), ← hA, hAX, k_bc_b hmc hXc, hn], rfl, _, rfl, ?_, ?_⟩
                    · rw [na_k (by decide), nw_at, if_neg (by omega), nw_at, if_neg (by omega), hcA.2 6 (by omega), nw_at, if_neg (by omega), nw_at, if_pos ⟨rfl, rfl, rfl⟩]
                    · rw [← hBq]
                      exact r_J_33 (r_J_close (q := B) (r_J_tc (p := nw (nw (μ 16) 22 0 6 0) 22 0 24 0) (r_J_24 (r_J_th hJ)) hcA))
                  ·
                    have hfl : t_is q0 9 = true := bI_n0.mp c_164
                    refine ca_iconst h dX12_query_167 ik_m1 ?_
                    refine ca_goto (tgt := 172) h dX12_query_168 (by decide) ?_
                    refine ca_ireturn h hR rfl dX12_query_172 ?_
                    refine ⟨by rw [if_pos hz0', e_qry_1, if_neg (hf8 hfl), ← hA, hAX]; unfold e_fst; rw [hkq hfl]; rfl, rfl, _, rfl, ?_, ?_⟩
                    · rw [na_k (by decide), nw_at, if_neg (by omega), nw_at, if_neg (by omega), hcA.2 6 (by omega), nw_at, if_neg (by omega), nw_at, if_pos ⟨rfl, rfl, rfl⟩]
                    · rw [← hBq]
                      exact r_J_33 (r_J_close (q := B) (r_J_tc (p := nw (nw (μ 16) 22 0 6 0) 22 0 24 0) (r_J_24 (r_J_th hJ)) hcA))
                · exact absurd c_132 (by rw [show n 0 0 2 = nI (k_mc n) from (nI_cn h02).symm]; exact nI_nlt (by omega) (by omega))
              | succ jj ih_124 =>
                intro m hn x3 e3 x4 e4 g hfc hkq mm em
                have hn1 : m < k_mc n := by omega
                subst e3 e4 em
                refine ca_iload h dX12_query_124 rfl ?_
                refine ca_aload_nr h dX12_query_126 rfl ?_
                refine gs_X12_9 h hs ⟨rfl, rfl⟩ dX12_query_127 ?_
                refine ca_iconst h dX12_query_130 ik_2 ?_
                refine ca_iald h rfl (hs.1 _ _ _ ⟨rfl, rfl⟩) (vp_in_nI (n := 2) (N := 1302) (by decide) (by decide)) dX12_query_131 ?_
                refine ca_top (show _ = n 0 0 2 by rw [show Int32.toNatClampNeg 2 = 2 from rfl, up_s, na_k (by decide), nw_k (by decide), nw_k (by decide), hcA.1 23 (by decide) (by decide), nw_k (by decide), nw_k (by decide)]; exact hN.1 2 (by decide)) ?_
                refine ca_icmp_ge (tgt := 163) h dX12_query_132 (by decide) (fun c_132 => ?_) (fun c_132 => ?_)
                · exact absurd (by rw [show n 0 0 2 = nI (k_mc n) from (nI_cn h02).symm]; exact nI_lt hn1 (by omega)) c_132
                ·
                  refine ca_aload_nr h dX12_query_135 rfl ?_
                  refine ca_iload h dX12_query_136 rfl ?_
                  refine ca_vXi h hG ml_X12_417 (c_X12_holds hs (n := n) (m := m) (by rw [up_s, na_k (by decide), nw_k (by decide), nw_k (by decide), hcA.1 23 (by decide) (by decide), nw_k (by decide), nw_k (by decide)]; exact hN) hn1 (C := C) (v := r_bit X9 m) hw1.2.1 (by rw [up_s, na_k (by decide), nw_at, if_neg (by omega), nw_at, if_neg (by omega)]; exact hw1.1) (fun k hk => by rw [up_s, na_k (by decide), nw_k (by decide), nw_k (by decide)]; exact hw1.2.2 k hk) (by rw [hbits m hn1 []])) (ci := 12) rfl rfl rfl (hs.1 _ _ _ ⟨rfl, rfl⟩) rfl rfl rfl rfl ⟨Nat.le_refl _, Nat.le_refl _⟩ rfl dX12_query_138 ?_
                  intro μ9 hμ9
                  obtain ⟨g2, rfl⟩ := hμ9
                  rw [up_s, up_up, na_na]
                  refine ca_if_ne (tgt := 147) h dX12_query_141 (by decide) (fun c_141 => ?_) (fun c_141 => ?_)
                  ·
                    have hbit : X9.testBit m = true := (r_bit_1 X9 m).mp (of_decide_eq_true (bI_n0.mp c_141))
                    refine ca_iload_n h dX12_query_147 rfl ?_
                    refine ca_if_eq (tgt := 154) h dX12_query_148 (by decide) (fun c_148 => ?_) (fun c_148 => ?_)
                    ·
                      have hnf : ¬ t_is q0 9 = true := fun z => bI_n0.mpr z c_148
                      refine ca_iinc h dX12_query_154 rfl ik_1 rfl ?_
                      refine ca_iinc h dX12_query_157 rfl ik_1 rfl ?_
                      refine ca_goto (tgt := 124) h dX12_query_160 (by decide) ?_
                      refine ca_pick [2, 3, 4, 1, 0] rfl ?_
                      exact ih_124 (m + 1) (by omega) _ (by rw [nI_1]; show nI (r_cn (fun i => X9.testBit i) m + 1) = nI (r_cn (fun i => X9.testBit i) m + (if X9.testBit m = true then 1 else 0)); rw [if_pos hbit]) _ (nI_1 m) g2 (Or.inl hnf) (fun z => absurd z hnf) _ rfl
                    ·
                      have hfl : t_is q0 9 = true := bI_n0.mp c_148
                      refine ca_iload h dX12_query_151 rfl ?_
                      refine ca_ireturn h hR rfl dX12_query_153 ?_
                      refine ⟨by rw [if_pos hz0', e_qry_1, if_neg (hf8 hfl), ← hA, hAX]; unfold e_fst; rw [hkq hfl, kq_yes hn (by have hq : ¬ nI X9 &&& e_bit m = 0 := fun z => (by have := (e_bit_t hX12 (by omega)).mp z; rw [this] at hbit; exact absurd hbit (by decide)); exact decide_eq_true hq)], rfl, _, rfl, ?_, ?_⟩
                      · rw [na_k (by decide), nw_at, if_neg (by omega), nw_at, if_neg (by omega), hcA.2 6 (by omega), nw_at, if_neg (by omega), nw_at, if_pos ⟨rfl, rfl, rfl⟩]
                      · rw [← hBq]
                        exact r_J_33 (r_J_close (q := B) (r_J_tc (p := nw (nw (μ 16) 22 0 6 0) 22 0 24 0) (r_J_24 (r_J_th hJ)) hcA))
                  ·
                    refine ca_goto (tgt := 157) h dX12_query_144 (by decide) ?_
                    have hbit : X9.testBit m = false := Bool.eq_false_iff.mpr (fun z => of_decide_eq_false (bI_0.mp c_141) ((r_bit_1 X9 m).mpr z))
                    refine ca_iinc h dX12_query_157 rfl ik_1 rfl ?_
                    refine ca_goto (tgt := 124) h dX12_query_160 (by decide) ?_
                    refine ca_pick [1, 2, 3, 4, 0] rfl ?_
                    exact ih_124 (m + 1) (by omega) _ (by show nI (r_cn (fun i => X9.testBit i) m) = nI (r_cn (fun i => X9.testBit i) m + (if X9.testBit m = true then 1 else 0)); rw [if_neg (by rw [hbit]; decide)]; rfl) _ (nI_1 m) g2 (hfc.imp id (fun h i hi => by rcases Nat.lt_succ_iff_lt_or_eq.mp hi with z | z; exact h i z; rw [z]; exact hbit)) (fun z => (hkq z).trans (kq_no hn (fun y => of_decide_eq_true y ((e_bit_t hX12 (by omega)).mpr hbit)))) _ rfl
            refine ca_pick [3, 4, 2, 1, 0] rfl ?_
            exact loop_124 (k_mc n) 0 (Nat.zero_add _) _ rfl _ rfl (p5 33 0) (Or.inr (fun i hi => absurd hi (Nat.not_lt_zero _))) (fun _ => rfl) _ (congrArg (up μ 16) (by rw [show p5 33 0 = (nw (nw p5 22 0 12 0) 22 0 19 (if B 12 0 1 = 0 then -1 else B 12 0 5)) 33 0 from (by rw [nw_k (by decide), nw_k (by decide)]), na_id]))
          ·
            refine ca_ldcw h kw_1906 dX12_query_110 ?_
            refine ca_aload_nr h dX12_query_113 rfl ?_
            refine gi_X12_301 h (hs.1 _ _ _ ⟨rfl, rfl⟩) dX12_query_114 ?_
            refine ca_top (show _ = B 12 0 1 by rw [up_s, nw_at, if_neg (by omega), nw_at, if_neg (by omega)]; exact hX5.1.2.2.1) ?_
            refine ca_isub h dX12_query_117 ?_
            refine ca_ireturn h hR rfl dX12_query_118 ?_
            rw [← hBq]
            refine ⟨by rw [if_neg c_107], rfl, _, rfl, ?_, ?_⟩
            · rw [nw_at, if_neg (by omega), nw_at, if_neg (by omega), hcA.2 6 (by omega), nw_at, if_neg (by omega), nw_at, if_pos ⟨rfl, rfl, rfl⟩]
            · exact r_J_close (q := B) (r_J_tc (p := nw (nw (μ 16) 22 0 6 0) 22 0 24 0) (r_J_24 (r_J_th hJ)) hcA)
        ·
          refine ca_aload_nr h dX12_query_87 rfl ?_
          refine gi_X12_292 h (hs.1 _ _ _ ⟨rfl, rfl⟩) dX12_query_88 ?_
          refine ca_top (show _ = r_tok (A.2 12 0 7) by rw [up_s]; exact hX4.2.2.2.1) ?_
          refine ca_if_ne (tgt := 98) h dX12_query_91 (by decide) (fun c_91 => ?_) (fun c_91 => ?_)
          ·
            refine ca_iconst h dX12_query_98 ik_0 ?_
            have e99 : r_chk A.2 0 1 = (e_qry n q0).2 := by rw [e_qry_2, ← hA, t_go_e hX4, if_pos (decide_eq_true ⟨c_84, Classical.byContradiction fun z => c_91 ((r_tok0 hX4).mpr z)⟩)]; rfl
            refine ca_iconst h dX12_query_99 ik_1 ?_
            refine ca_vXv h hG ml_X12_328 (c_X12_check hs (q := A.2) (by rw [up_s]; exact hX4)) (ci := 12) rfl rfl rfl (hs.1 _ _ _ ⟨rfl, rfl⟩) rfl rfl rfl rfl ⟨Nat.le_refl _, Nat.le_refl _⟩ rfl dX12_query_100 ?_
            intro μ9 hμ9
            obtain ⟨p5, rfl, hX5, hf5⟩ := hμ9
            rw [e99] at hX5
            rw [up_up]
            rw [up_s] at hf5
            obtain ⟨B, hBq⟩ : ∃ z, z = (e_qry n q0).2 := ⟨_, rfl⟩
            rw [← hBq] at hX5
            have hcA : r_tc (nw (nw (μ 16) 22 0 6 0) 22 0 24 0) p5 := r_tc_tr (r_tc_tr (r_tc_tr r_tc_20 (r_tc_tf hfA)) hc4) (r_tc_tf hf5)
            refine ca_aload_nr h dX12_query_103 rfl ?_
            refine ca_vi h hG ml_X12_374 (c_X12_finish_ hs (q := B) (by rw [up_s]; exact hX5)) (ci := 12) rfl rfl rfl (hs.1 _ _ _ ⟨rfl, rfl⟩) rfl rfl rfl rfl ⟨Nat.le_refl _, Nat.le_refl _⟩ rfl dX12_query_104 ?_
            rw [up_s, up_up]
            refine ca_if_eq (tgt := 119) h dX12_query_107 (by decide) (fun c_107 => ?_) (fun c_107 => ?_)
            ·
              have hz0 : B 12 0 1 = 0 := c_107
              have hz0' : (e_qry n q0).2 12 0 1 = 0 := by rw [← hBq]; exact hz0
              have hA0 : A.2 12 0 1 = 0 := by
                rw [e_qry_2, ← hA] at hz0'
                split at hz0'
                · exact absurd hz0' (t_fail_ne (by decide))
                · exact hz0'
              obtain ⟨w0, w1, ⟨X9, hXc, hAX, hbits⟩, w3⟩ := hC4 hA0
              rw [List.nil_append] at w1
              have hX12 : X9 < 4096 := Nat.lt_of_lt_of_le hXc (p12 hmc)
              have hh1 : (e_h1 q0) 12 0 1 = 0 := (t_adv_1 _).symm.trans w0
              have hf8 : t_is q0 9 = true → ¬ t_is q0 8 = true := fun z => t_is_ne z (by decide)
              have hm8 : ¬ t_is q0 9 = true → t_is q0 8 = true := fun z => Classical.byContradiction fun y => by
                rw [e_h1_e, if_neg y, if_neg z] at hh1
                exact absurd hh1 (t_fail_ne (by decide))
              have hw1 : r_C p5 C := r_C_tf w1 hf5
              refine ca_iconst h dX12_query_119 ik_0 ?_
              refine ca_istore_n h dX12_query_120 rfl ?_
              refine ca_iconst h dX12_query_121 ik_0 ?_
              refine ca_istore h dX12_query_122 rfl ?_
              have loop_124 : ∀ (jj m : Nat), m + jj = k_mc n → ∀ (x3 : Int32) (e3 : x3 = nI (r_cn (fun i => X9.testBit i) m)) (x4 : Int32) (e4 : x4 = nI m) (g : Nat → Int32) (hfc : ¬ t_is q0 9 = true ∨ ∀ i, i < m → X9.testBit i = false) (hkq : t_is q0 9 = true → kq (fun i => decide (¬ nI X9 &&& e_bit i = 0)) (k_mc n) (k_mc n) = kq (fun i => decide (¬ nI X9 &&& e_bit i = 0)) (k_mc n) jj) (mm : ch_M) (em : mm = up μ 16 (na (nw (nw p5 22 0 12 0) 22 0 19 (if B 12 0 1 = 0 then -1 else B 12 0 5)) 33 0 g)), ch_W X E 5 S mm 0 0 124 [(0, .ref (S.1 16 22 0)), (1, .int (nI e)), (2, .int (bI (t_is q0 9))), (3, .int x3), (4, .int x4)] [] := by
                intro jj
                induction jj with
                | zero =>
                  intro m hn x3 e3 x4 e4 g hfc hkq mm em
                  have hn : m = k_mc n := by omega
                  subst e3 e4 em
                  refine ca_iload h dX12_query_124 rfl ?_
                  refine ca_aload_nr h dX12_query_126 rfl ?_
                  refine gs_X12_9 h hs ⟨rfl, rfl⟩ dX12_query_127 ?_
                  refine ca_iconst h dX12_query_130 ik_2 ?_
                  refine ca_iald h rfl (hs.1 _ _ _ ⟨rfl, rfl⟩) (vp_in_nI (n := 2) (N := 1302) (by decide) (by decide)) dX12_query_131 ?_
                  refine ca_top (show _ = n 0 0 2 by rw [show Int32.toNatClampNeg 2 = 2 from rfl, up_s, na_k (by decide), nw_k (by decide), nw_k (by decide), hcA.1 23 (by decide) (by decide), nw_k (by decide), nw_k (by decide)]; exact hN.1 2 (by decide)) ?_
                  refine ca_icmp_ge (tgt := 163) h dX12_query_132 (by decide) (fun c_132 => ?_) (fun c_132 => ?_)
                  ·
                    refine ca_iload_n h dX12_query_163 rfl ?_
                    refine ca_if_eq (tgt := 171) h dX12_query_164 (by decide) (fun c_164 => ?_) (fun c_164 => ?_)
                    ·
                      have hfl : ¬ t_is q0 9 = true := fun z => bI_n0.mpr z c_164
                      refine ca_iload_n h dX12_query_171 rfl ?_
                      refine ca_ireturn h hR rfl dX12_query_172 ?_
                      refine ⟨by rw [if_pos hz0', e_qry_1, if_pos (hm8 hfl), ← hA, hAX, k_bc_b hmc hXc, hn], rfl, _, rfl, ?_, ?_⟩
                      · rw [na_k (by decide), nw_at, if_neg (by omega), nw_at, if_neg (by omega), hcA.2 6 (by omega), nw_at, if_neg (by omega), nw_at, if_pos ⟨rfl, rfl, rfl⟩]
                      · rw [← hBq]
                        exact r_J_33 (r_J_close (q := B) (r_J_tc (p := nw (nw (μ 16) 22 0 6 0) 22 0 24 0) (r_J_24 (r_J_th hJ)) hcA))
                    ·
                      have hfl : t_is q0 9 = true := bI_n0.mp c_164
                      refine ca_iconst h dX12_query_167 ik_m1 ?_
                      refine ca_goto (tgt := 172) h dX12_query_168 (by decide) ?_
                      refine ca_ireturn h hR rfl dX12_query_172 ?_
                      refine ⟨by rw [if_pos hz0', e_qry_1, if_neg (hf8 hfl), ← hA, hAX]; unfold e_fst; rw [hkq hfl]; rfl, rfl, _, rfl, ?_, ?_⟩
                      · rw [na_k (by decide), nw_at, if_neg (by omega), nw_at, if_neg (by omega), hcA.2 6 (by omega), nw_at, if_neg (by omega), nw_at, if_pos ⟨rfl, rfl, rfl⟩]
                      · rw [← hBq]
                        exact r_J_33 (r_J_close (q := B) (r_J_tc (p := nw (nw (μ 16) 22 0 6 0) 22 0 24 0) (r_J_24 (r_J_th hJ)) hcA))
                  · exact absurd c_132 (by rw [show n 0 0 2 = nI (k_mc n) from (nI_cn h02).symm]; exact nI_nlt (by omega) (by omega))
                | succ jj ih_124 =>
                  intro m hn x3 e3 x4 e4 g hfc hkq mm em
                  have hn1 : m < k_mc n := by omega
                  subst e3 e4 em
                  refine ca_iload h dX12_query_124 rfl ?_
                  refine ca_aload_nr h dX12_query_126 rfl ?_
                  refine gs_X12_9 h hs ⟨rfl, rfl⟩ dX12_query_127 ?_
                  refine ca_iconst h dX12_query_130 ik_2 ?_
                  refine ca_iald h rfl (hs.1 _ _ _ ⟨rfl, rfl⟩) (vp_in_nI (n := 2) (N := 1302) (by decide) (by decide)) dX12_query_131 ?_
                  refine ca_top (show _ = n 0 0 2 by rw [show Int32.toNatClampNeg 2 = 2 from rfl, up_s, na_k (by decide), nw_k (by decide), nw_k (by decide), hcA.1 23 (by decide) (by decide), nw_k (by decide), nw_k (by decide)]; exact hN.1 2 (by decide)) ?_
                  refine ca_icmp_ge (tgt := 163) h dX12_query_132 (by decide) (fun c_132 => ?_) (fun c_132 => ?_)
                  · exact absurd (by rw [show n 0 0 2 = nI (k_mc n) from (nI_cn h02).symm]; exact nI_lt hn1 (by omega)) c_132
                  ·
                    refine ca_aload_nr h dX12_query_135 rfl ?_
                    refine ca_iload h dX12_query_136 rfl ?_
                    refine ca_vXi h hG ml_X12_417 (c_X12_holds hs (n := n) (m := m) (by rw [up_s, na_k (by decide), nw_k (by decide), nw_k (by decide), hcA.1 23 (by decide) (by decide), nw_k (by decide), nw_k (by decide)]; exact hN) hn1 (C := C) (v := r_bit X9 m) hw1.2.1 (by rw [up_s, na_k (by decide), nw_at, if_neg (by omega), nw_at, if_neg (by omega)]; exact hw1.1) (fun k hk => by rw [up_s, na_k (by decide), nw_k (by decide), nw_k (by decide)]; exact hw1.2.2 k hk) (by rw [hbits m hn1 []])) (ci := 12) rfl rfl rfl (hs.1 _ _ _ ⟨rfl, rfl⟩) rfl rfl rfl rfl ⟨Nat.le_refl _, Nat.le_refl _⟩ rfl dX12_query_138 ?_
                    intro μ9 hμ9
                    obtain ⟨g2, rfl⟩ := hμ9
                    rw [up_s, up_up, na_na]
                    refine ca_if_ne (tgt := 147) h dX12_query_141 (by decide) (fun c_141 => ?_) (fun c_141 => ?_)
                    ·
                      have hbit : X9.testBit m = true := (r_bit_1 X9 m).mp (of_decide_eq_true (bI_n0.mp c_141))
                      refine ca_iload_n h dX12_query_147 rfl ?_
                      refine ca_if_eq (tgt := 154) h dX12_query_148 (by decide) (fun c_148 => ?_) (fun c_148 => ?_)
                      ·
                        have hnf : ¬ t_is q0 9 = true := fun z => bI_n0.mpr z c_148
                        refine ca_iinc h dX12_query_154 rfl ik_1 rfl ?_
                        refine ca_iinc h dX12_query_157 rfl ik_1 rfl ?_
                        refine ca_goto (tgt := 124) h dX12_query_160 (by decide) ?_
                        refine ca_pick [2, 3, 4, 1, 0] rfl ?_
                        exact ih_124 (m + 1) (by omega) _ (by rw [nI_1]; show nI (r_cn (fun i => X9.testBit i) m + 1) = nI (r_cn (fun i => X9.testBit i) m + (if X9.testBit m = true then 1 else 0)); rw [if_pos hbit]) _ (nI_1 m) g2 (Or.inl hnf) (fun z => absurd z hnf) _ rfl
                      ·
                        have hfl : t_is q0 9 = true := bI_n0.mp c_148
                        refine ca_iload h dX12_query_151 rfl ?_
                        refine ca_ireturn h hR rfl dX12_query_153 ?_
                        refine ⟨by rw [if_pos hz0', e_qry_1, if_neg (hf8 hfl), ← hA, hAX]; unfold e_fst; rw [hkq hfl, kq_yes hn (by have hq : ¬ nI X9 &&& e_bit m = 0 := fun z => (by have := (e_bit_t hX12 (by omega)).mp z; rw [this] at hbit; exact absurd hbit (by decide)); exact decide_eq_true hq)], rfl, _, rfl, ?_, ?_⟩
                        · rw [na_k (by decide), nw_at, if_neg (by omega), nw_at, if_neg (by omega), hcA.2 6 (by omega), nw_at, if_neg (by omega), nw_at, if_pos ⟨rfl, rfl, rfl⟩]
                        · rw [← hBq]
                          exact r_J_33 (r_J_close (q := B) (r_J_tc (p := nw (nw (μ 16) 22 0 6 0) 22 0 24 0) (r_J_24 (r_J_th hJ)) hcA))
                    ·
                      refine ca_goto (tgt := 157) h dX12_query_144 (by decide) ?_
                      have hbit : X9.testBit m = false := Bool.eq_false_iff.mpr (fun z => of_decide_eq_false (bI_0.mp c_141) ((r_bit_1 X9 m).mpr z))
                      refine ca_iinc h dX12_query_157 rfl ik_1 rfl ?_
                      refine ca_goto (tgt := 124) h dX12_query_160 (by decide) ?_
                      refine ca_pick [1, 2, 3, 4, 0] rfl ?_
                      exact ih_124 (m + 1) (by omega) _ (by show nI (r_cn (fun i => X9.testBit i) m) = nI (r_cn (fun i => X9.testBit i) m + (if X9.testBit m = true then 1 else 0)); rw [if_neg (by rw [hbit]; decide)]; rfl) _ (nI_1 m) g2 (hfc.imp id (fun h i hi => by rcases Nat.lt_succ_iff_lt_or_eq.mp hi with z | z; exact h i z; rw [z]; exact hbit)) (fun z => (hkq z).trans (kq_no hn (fun y => of_decide_eq_true y ((e_bit_t hX12 (by omega)).mpr hbit)))) _ rfl
              refine ca_pick [3, 4, 2, 1, 0] rfl ?_
              exact loop_124 (k_mc n) 0 (Nat.zero_add _) _ rfl _ rfl (p5 33 0) (Or.inr (fun i hi => absurd hi (Nat.not_lt_zero _))) (fun _ => rfl) _ (congrArg (up μ 16) (by rw [show p5 33 0 = (nw (nw p5 22 0 12 0) 22 0 19 (if B 12 0 1 = 0 then -1 else B 12 0 5)) 33 0 from (by rw [nw_k (by decide), nw_k (by decide)]), na_id]))
            ·
              refine ca_ldcw h kw_1906 dX12_query_110 ?_
              refine ca_aload_nr h dX12_query_113 rfl ?_
              refine gi_X12_301 h (hs.1 _ _ _ ⟨rfl, rfl⟩) dX12_query_114 ?_
              refine ca_top (show _ = B 12 0 1 by rw [up_s, nw_at, if_neg (by omega), nw_at, if_neg (by omega)]; exact hX5.1.2.2.1) ?_
              refine ca_isub h dX12_query_117 ?_
              refine ca_ireturn h hR rfl dX12_query_118 ?_
              rw [← hBq]
              refine ⟨by rw [if_neg c_107], rfl, _, rfl, ?_, ?_⟩
              · rw [nw_at, if_neg (by omega), nw_at, if_neg (by omega), hcA.2 6 (by omega), nw_at, if_neg (by omega), nw_at, if_pos ⟨rfl, rfl, rfl⟩]
              · exact r_J_close (q := B) (r_J_tc (p := nw (nw (μ 16) 22 0 6 0) 22 0 24 0) (r_J_24 (r_J_th hJ)) hcA)
          ·
            refine ca_iconst h dX12_query_94 ik_1 ?_
            refine ca_goto (tgt := 99) h dX12_query_95 (by decide) ?_
            have e99 : r_chk A.2 1 1 = (e_qry n q0).2 := by rw [e_qry_2, ← hA, t_go_e hX4, if_neg (fun z => (r_tok0 hX4).mp c_91 (of_decide_eq_true z).2)]; rfl
            refine ca_iconst h dX12_query_99 ik_1 ?_
            refine ca_vXv h hG ml_X12_328 (c_X12_check hs (q := A.2) (by rw [up_s]; exact hX4)) (ci := 12) rfl rfl rfl (hs.1 _ _ _ ⟨rfl, rfl⟩) rfl rfl rfl rfl ⟨Nat.le_refl _, Nat.le_refl _⟩ rfl dX12_query_100 ?_
            intro μ9 hμ9
            obtain ⟨p5, rfl, hX5, hf5⟩ := hμ9
            rw [e99] at hX5
            rw [up_up]
            rw [up_s] at hf5
            obtain ⟨B, hBq⟩ : ∃ z, z = (e_qry n q0).2 := ⟨_, rfl⟩
            rw [← hBq] at hX5
            have hcA : r_tc (nw (nw (μ 16) 22 0 6 0) 22 0 24 0) p5 := r_tc_tr (r_tc_tr (r_tc_tr r_tc_20 (r_tc_tf hfA)) hc4) (r_tc_tf hf5)
            refine ca_aload_nr h dX12_query_103 rfl ?_
            refine ca_vi h hG ml_X12_374 (c_X12_finish_ hs (q := B) (by rw [up_s]; exact hX5)) (ci := 12) rfl rfl rfl (hs.1 _ _ _ ⟨rfl, rfl⟩) rfl rfl rfl rfl ⟨Nat.le_refl _, Nat.le_refl _⟩ rfl dX12_query_104 ?_
            rw [up_s, up_up]
            refine ca_if_eq (tgt := 119) h dX12_query_107 (by decide) (fun c_107 => ?_) (fun c_107 => ?_)
            ·
              have hz0 : B 12 0 1 = 0 := c_107
              have hz0' : (e_qry n q0).2 12 0 1 = 0 := by rw [← hBq]; exact hz0
              have hA0 : A.2 12 0 1 = 0 := by
                rw [e_qry_2, ← hA] at hz0'
                split at hz0'
                · exact absurd hz0' (t_fail_ne (by decide))
                · exact hz0'
              obtain ⟨w0, w1, ⟨X9, hXc, hAX, hbits⟩, w3⟩ := hC4 hA0
              rw [List.nil_append] at w1
              have hX12 : X9 < 4096 := Nat.lt_of_lt_of_le hXc (p12 hmc)
              have hh1 : (e_h1 q0) 12 0 1 = 0 := (t_adv_1 _).symm.trans w0
              have hf8 : t_is q0 9 = true → ¬ t_is q0 8 = true := fun z => t_is_ne z (by decide)
              have hm8 : ¬ t_is q0 9 = true → t_is q0 8 = true := fun z => Classical.byContradiction fun y => by
                rw [e_h1_e, if_neg y, if_neg z] at hh1
                exact absurd hh1 (t_fail_ne (by decide))
              have hw1 : r_C p5 C := r_C_tf w1 hf5
              refine ca_iconst h dX12_query_119 ik_0 ?_
              refine ca_istore_n h dX12_query_120 rfl ?_
              refine ca_iconst h dX12_query_121 ik_0 ?_
              refine ca_istore h dX12_query_122 rfl ?_
              have loop_124 : ∀ (jj m : Nat), m + jj = k_mc n → ∀ (x3 : Int32) (e3 : x3 = nI (r_cn (fun i => X9.testBit i) m)) (x4 : Int32) (e4 : x4 = nI m) (g : Nat → Int32) (hfc : ¬ t_is q0 9 = true ∨ ∀ i, i < m → X9.testBit i = false) (hkq : t_is q0 9 = true → kq (fun i => decide (¬ nI X9 &&& e_bit i = 0)) (k_mc n) (k_mc n) = kq (fun i => decide (¬ nI X9 &&& e_bit i = 0)) (k_mc n) jj) (mm : ch_M) (em : mm = up μ 16 (na (nw (nw p5 22 0 12 0) 22 0 19 (if B 12 0 1 = 0 then -1 else B 12 0 5)) 33 0 g)), ch_W X E 5 S mm 0 0 124 [(0, .ref (S.1 16 22 0)), (1, .int (nI e)), (2, .int (bI (t_is q0 9))), (3, .int x3), (4, .int x4)] [] := by
                intro jj
                induction jj with
                | zero =>
                  intro m hn x3 e3 x4 e4 g hfc hkq mm em
                  have hn : m = k_mc n := by omega
                  subst e3 e4 em
                  refine ca_iload h dX12_query_124 rfl ?_
                  refine ca_aload_nr h dX12_query_126 rfl ?_
                  refine gs_X12_9 h hs ⟨rfl, rfl⟩ dX12_query_127 ?_
                  refine ca_iconst h dX12_query_130 ik_2 ?_
                  refine ca_iald h rfl (hs.1 _ _ _ ⟨rfl, rfl⟩) (vp_in_nI (n := 2) (N := 1302) (by decide) (by decide)) dX12_query_131 ?_
                  refine ca_top (show _ = n 0 0 2 by rw [show Int32.toNatClampNeg 2 = 2 from rfl, up_s, na_k (by decide), nw_k (by decide), nw_k (by decide), hcA.1 23 (by decide) (by decide), nw_k (by decide), nw_k (by decide)]; exact hN.1 2 (by decide)) ?_
                  refine ca_icmp_ge (tgt := 163) h dX12_query_132 (by decide) (fun c_132 => ?_) (fun c_132 => ?_)
                  ·
                    refine ca_iload_n h dX12_query_163 rfl ?_
                    refine ca_if_eq (tgt := 171) h dX12_query_164 (by decide) (fun c_164 => ?_) (fun c_164 => ?_)
                    ·
                      have hfl : ¬ t_is q0 9 = true := fun z => bI_n0.mpr z c_164
                      refine ca_iload_n h dX12_query_171 rfl ?_
                      refine ca_ireturn h hR rfl dX12_query_172 ?_
                      refine ⟨by rw [if_pos hz0', e_qry_1, if_pos (hm8 hfl), ← hA, hAX, k_bc_b hmc hXc, hn], rfl, _, rfl, ?_, ?_⟩
                      · rw [na_k (by decide), nw_at, if_neg (by omega), nw_at, if_neg (by omega), hcA.2 6 (by omega), nw_at, if_neg (by omega), nw_at, if_pos ⟨rfl, rfl, rfl⟩]
                      · rw [← hBq]
                        exact r_J_33 (r_J_close (q := B) (r_J_tc (p := nw (nw (μ 16) 22 0 6 0) 22 0 24 0) (r_J_24 (r_J_th hJ)) hcA))
                    ·
                      have hfl : t_is q0 9 = true := bI_n0.mp c_164
                      refine ca_iconst h dX12_query_167 ik_m1 ?_
                      refine ca_goto (tgt := 172) h dX12_query_168 (by decide) ?_
                      refine ca_ireturn h hR rfl dX12_query_172 ?_
                      refine ⟨by rw [if_pos hz0', e_qry_1, if_neg (hf8 hfl), ← hA, hAX]; unfold e_fst; rw [hkq hfl]; rfl, rfl, _, rfl, ?_, ?_⟩
                      · rw [na_k (by decide), nw_at, if_neg (by omega), nw_at, if_neg (by omega), hcA.2 6 (by omega), nw_at, if_neg (by omega), nw_at, if_pos ⟨rfl, rfl, rfl⟩]
                      · rw [← hBq]
                        exact r_J_33 (r_J_close (q := B) (r_J_tc (p := nw (nw (μ 16) 22 0 6 0) 22 0 24 0) (r_J_24 (r_J_th hJ)) hcA))
                  · exact absurd c_132 (by rw [show n 0 0 2 = nI (k_mc n) from (nI_cn h02).symm]; exact nI_nlt (by omega) (by omega))
                | succ jj ih_124 =>
                  intro m hn x3 e3 x4 e4 g hfc hkq mm em
                  have hn1 : m < k_mc n := by omega
                  subst e3 e4 em
                  refine ca_iload h dX12_query_124 rfl ?_
                  refine ca_aload_nr h dX12_query_126 rfl ?_
                  refine gs_X12_9 h hs ⟨rfl, rfl⟩ dX12_query_127 ?_
                  refine ca_iconst h dX12_query_130 ik_2 ?_
                  refine ca_iald h rfl (hs.1 _ _ _ ⟨rfl, rfl⟩) (vp_in_nI (n := 2) (N := 1302) (by decide) (by decide)) dX12_query_131 ?_
                  refine ca_top (show _ = n 0 0 2 by rw [show Int32.toNatClampNeg 2 = 2 from rfl, up_s, na_k (by decide), nw_k (by decide), nw_k (by decide), hcA.1 23 (by decide) (by decide), nw_k (by decide), nw_k (by decide)]; exact hN.1 2 (by decide)) ?_
                  refine ca_icmp_ge (tgt := 163) h dX12_query_132 (by decide) (fun c_132 => ?_) (fun c_132 => ?_)
                  · exact absurd (by rw [show n 0 0 2 = nI (k_mc n) from (nI_cn h02).symm]; exact nI_lt hn1 (by omega)) c_132
                  ·
                    refine ca_aload_nr h dX12_query_135 rfl ?_
                    refine ca_iload h dX12_query_136 rfl ?_
                    refine ca_vXi h hG ml_X12_417 (c_X12_holds hs (n := n) (m := m) (by rw [up_s, na_k (by decide), nw_k (by decide), nw_k (by decide), hcA.1 23 (by decide) (by decide), nw_k (by decide), nw_k (by decide)]; exact hN) hn1 (C := C) (v := r_bit X9 m) hw1.2.1 (by rw [up_s, na_k (by decide), nw_at, if_neg (by omega), nw_at, if_neg (by omega)]; exact hw1.1) (fun k hk => by rw [up_s, na_k (by decide), nw_k (by decide), nw_k (by decide)]; exact hw1.2.2 k hk) (by rw [hbits m hn1 []])) (ci := 12) rfl rfl rfl (hs.1 _ _ _ ⟨rfl, rfl⟩) rfl rfl rfl rfl ⟨Nat.le_refl _, Nat.le_refl _⟩ rfl dX12_query_138 ?_
                    intro μ9 hμ9
                    obtain ⟨g2, rfl⟩ := hμ9
                    rw [up_s, up_up, na_na]
                    refine ca_if_ne (tgt := 147) h dX12_query_141 (by decide) (fun c_141 => ?_) (fun c_141 => ?_)
                    ·
                      have hbit : X9.testBit m = true := (r_bit_1 X9 m).mp (of_decide_eq_true (bI_n0.mp c_141))
                      refine ca_iload_n h dX12_query_147 rfl ?_
                      refine ca_if_eq (tgt := 154) h dX12_query_148 (by decide) (fun c_148 => ?_) (fun c_148 => ?_)
                      ·
                        have hnf : ¬ t_is q0 9 = true := fun z => bI_n0.mpr z c_148
                        refine ca_iinc h dX12_query_154 rfl ik_1 rfl ?_
                        refine ca_iinc h dX12_query_157 rfl ik_1 rfl ?_
                        refine ca_goto (tgt := 124) h dX12_query_160 (by decide) ?_
                        refine ca_pick [2, 3, 4, 1, 0] rfl ?_
                        exact ih_124 (m + 1) (by omega) _ (by rw [nI_1]; show nI (r_cn (fun i => X9.testBit i) m + 1) = nI (r_cn (fun i => X9.testBit i) m + (if X9.testBit m = true then 1 else 0)); rw [if_pos hbit]) _ (nI_1 m) g2 (Or.inl hnf) (fun z => absurd z hnf) _ rfl
                      ·
                        have hfl : t_is q0 9 = true := bI_n0.mp c_148
                        refine ca_iload h dX12_query_151 rfl ?_
                        refine ca_ireturn h hR rfl dX12_query_153 ?_
                        refine ⟨by rw [if_pos hz0', e_qry_1, if_neg (hf8 hfl), ← hA, hAX]; unfold e_fst; rw [hkq hfl, kq_yes hn (by have hq : ¬ nI X9 &&& e_bit m = 0 := fun z => (by have := (e_bit_t hX12 (by omega)).mp z; rw [this] at hbit; exact absurd hbit (by decide)); exact decide_eq_true hq)], rfl, _, rfl, ?_, ?_⟩
                        · rw [na_k (by decide), nw_at, if_neg (by omega), nw_at, if_neg (by omega), hcA.2 6 (by omega), nw_at, if_neg (by omega), nw_at, if_pos ⟨rfl, rfl, rfl⟩]
                        · rw [← hBq]
                          exact r_J_33 (r_J_close (q := B) (r_J_tc (p := nw (nw (μ 16) 22 0 6 0) 22 0 24 0) (r_J_24 (r_J_th hJ)) hcA))
                    ·
                      refine ca_goto (tgt := 157) h dX12_query_144 (by decide) ?_
                      have hbit : X9.testBit m = false := Bool.eq_false_iff.mpr (fun z => of_decide_eq_false (bI_0.mp c_141) ((r_bit_1 X9 m).mpr z))
                      refine ca_iinc h dX12_query_157 rfl ik_1 rfl ?_
                      refine ca_goto (tgt := 124) h dX12_query_160 (by decide) ?_
                      refine ca_pick [1, 2, 3, 4, 0] rfl ?_
                      exact ih_124 (m + 1) (by omega) _ (by show nI (r_cn (fun i => X9.testBit i) m) = nI (r_cn (fun i => X9.testBit i) m + (if X9.testBit m = true then 1 else 0)); rw [if_neg (by rw [hbit]; decide)]; rfl) _ (nI_1 m) g2 (hfc.imp id (fun h i hi => by rcases Nat.lt_succ_iff_lt_or_eq.mp hi with z | z; exact h i z; rw [z]; exact hbit)) (fun z => (hkq z).trans (kq_no hn (fun y => of_decide_eq_true y ((e_bit_t hX12 (by omega)).mpr hbit)))) _ rfl
              refine ca_pick [3, 4, 2, 1, 0] rfl ?_
              exact loop_124 (k_mc n) 0 (Nat.zero_add _) _ rfl _ rfl (p5 33 0) (Or.inr (fun i hi => absurd hi (Nat.not_lt_zero _))) (fun _ => rfl) _ (congrArg (up μ 16) (by rw [show p5 33 0 = (nw (nw p5 22 0 12 0) 22 0 19 (if B 12 0 1 = 0 then -1 else B 12 0 5)) 33 0 from (by rw [nw_k (by decide), nw_k (by decide)]), na_id]))
            ·
              refine ca_ldcw h kw_1906 dX12_query_110 ?_
              refine ca_aload_nr h dX12_query_113 rfl ?_
              refine gi_X12_301 h (hs.1 _ _ _ ⟨rfl, rfl⟩) dX12_query_114 ?_
              refine ca_top (show _ = B 12 0 1 by rw [up_s, nw_at, if_neg (by omega), nw_at, if_neg (by omega)]; exact hX5.1.2.2.1) ?_
              refine ca_isub h dX12_query_117 ?_
              refine ca_ireturn h hR rfl dX12_query_118 ?_
              rw [← hBq]
              refine ⟨by rw [if_neg c_107], rfl, _, rfl, ?_, ?_⟩
              · rw [nw_at, if_neg (by omega), nw_at, if_neg (by omega), hcA.2 6 (by omega), nw_at, if_neg (by omega), nw_at, if_pos ⟨rfl, rfl, rfl⟩]
              · exact r_J_close (q := B) (r_J_tc (p := nw (nw (μ 16) 22 0 6 0) 22 0 24 0) (r_J_24 (r_J_th hJ)) hcA)
      ·
        refine ca_iconst h dX12_query_62 ik_1 ?_
        refine ca_goto (tgt := 67) h dX12_query_63 (by decide) ?_
        have e67 : r_chk q0 1 1 = e_h1 q0 := by rw [e_h1_e, if_pos (bI_n0.mp c_59)]; rfl
        refine ca_iconst h dX12_query_67 ik_1 ?_
        refine ca_vXv h hG ml_X12_328 (c_X12_check hs (q := q0) (by rw [up_s]; exact hX0)) (ci := 12) rfl rfl rfl (hs.1 _ _ _ ⟨rfl, rfl⟩) rfl rfl rfl rfl ⟨Nat.le_refl _, Nat.le_refl _⟩ rfl dX12_query_68 ?_
        intro μ9 hμ9
        obtain ⟨p1, rfl, hX1, hf1⟩ := hμ9
        rw [e67] at hX1
        rw [up_up]
        rw [up_s] at hf1
        refine ca_aload_nr h dX12_query_71 rfl ?_
        refine ca_vXv h hG ml_X12_332 (c_X12_advance hs (q := e_h1 q0) (by rw [up_s]; exact hX1)) (ci := 12) rfl rfl rfl (hs.1 _ _ _ ⟨rfl, rfl⟩) rfl rfl rfl rfl ⟨Nat.le_refl _, Nat.le_refl _⟩ rfl dX12_query_72 ?_
        intro μ9 hμ9
        obtain ⟨p2, rfl, hX2, hf2⟩ := hμ9
        rw [up_up]
        rw [up_s] at hf2
        have hfA : r_tf (nw (nw (nw (μ 16) 22 0 6 0) 22 0 24 0) 22 0 20 0) p2 := r_tf_tr (r_tf_tr hf0 hf1) hf2
        have h20 : p2 22 0 20 = 0 := by rw [hfA.2 20 (by omega), nw_at, if_pos ⟨rfl, rfl, rfl⟩]
        have hh1e : t_e (e_h1 q0) = e := by
          rw [← hq0e, e_h1_e]
          split
          · rfl
          · first
              | (split; rfl; (unfold t_e; rw [t_fail_at (by decide)]))
              | rfl
              | (unfold t_e; rw [t_fail_at (by decide)])
        refine ca_aload_nr h dX12_query_75 rfl ?_
        refine ca_vXv h hG ml_X12_390 (c_X12_compileTest_o0 hs (q := t_adv (e_h1 q0)) (n := n) (by rw [up_s]; exact hX2) hmc h02 (by rw [t_adv_e, hh1e]; omega) (by rw [up_s]; exact h20) (cs := []) (fun _ => by rw [up_s]; exact ⟨⟨by rw [hfA.2 24 (by omega), nw_at, if_neg (by omega), nw_at, if_pos ⟨rfl, rfl, rfl⟩]; rfl, by decide, fun k hk => absurd hk (Nat.not_lt_zero _)⟩, Nat.zero_le _⟩)) (ci := 12) rfl rfl rfl (hs.1 _ _ _ ⟨rfl, rfl⟩) rfl rfl rfl rfl ⟨Nat.le_refl _, Nat.le_refl _⟩ rfl dX12_query_76 ?_
        intro μ9 hμ9
        obtain ⟨p4, C, rfl, hX4, hc4, h204, he4, hC4⟩ := hμ9
        rw [up_up]
        rw [up_s] at hc4
        rw [← e_h2_e] at hX4 he4 hC4
        obtain ⟨A, hA⟩ : ∃ z, z = e_h2 n q0 := ⟨_, rfl⟩
        rw [← hA] at hX4 he4 hC4
        refine ca_aload_nr h dX12_query_79 rfl ?_
        refine ca_aload_nr h dX12_query_80 rfl ?_
        refine gi_X12_301 h (hs.1 _ _ _ ⟨rfl, rfl⟩) dX12_query_81 ?_
        refine ca_top (show _ = A.2 12 0 1 by rw [up_s]; exact hX4.1.2.2.1) ?_
        refine ca_if_ne (tgt := 94) h dX12_query_84 (by decide) (fun c_84 => ?_) (fun c_84 => ?_)
        ·
          refine ca_iconst h dX12_query_94 ik_1 ?_
          refine ca_goto (tgt := 99) h dX12_query_95 (by decide) ?_
          have e99 : r_chk A.2 1 1 = (e_qry n q0).2 := by rw [e_qry_2, ← hA, t_go_e hX4, if_neg (fun z => c_84 (of_decide_eq_true z).1)]; rfl
          refine ca_iconst h dX12_query_99 ik_1 ?_
          refine ca_vXv h hG ml_X12_328 (c_X12_check hs (q := A.2) (by rw [up_s]; exact hX4)) (ci := 12) rfl rfl rfl (hs.1 _ _ _ ⟨rfl, rfl⟩) rfl rfl rfl rfl ⟨Nat.le_refl _, Nat.le_refl _⟩ rfl dX12_query_100 ?_
          intro μ9 hμ9
          obtain ⟨p5, rfl, hX5, hf5⟩ := hμ9
          rw [e99] at hX5
          rw [up_up]
          rw [up_s] at hf5
          obtain ⟨B, hBq⟩ : ∃ z, z = (e_qry n q0).2 := ⟨_, rfl⟩
          rw [← hBq] at hX5
          have hcA : r_tc (nw (nw (μ 16) 22 0 6 0) 22 0 24 0) p5 := r_tc_tr (r_tc_tr (r_tc_tr r_tc_20 (r_tc_tf hfA)) hc4) (r_tc_tf hf5)
          refine ca_aload_nr h dX12_query_103 rfl ?_
          refine ca_vi h hG ml_X12_374 (c_X12_finish_ hs (q := B) (by rw [up_s]; exact hX5)) (ci := 12) rfl rfl rfl (hs.1 _ _ _ ⟨rfl, rfl⟩) rfl rfl rfl rfl ⟨Nat.le_refl _, Nat.le_refl _⟩ rfl dX12_query_104 ?_
          rw [up_s, up_up]
          refine ca_if_eq (tgt := 119) h dX12_query_107 (by decide) (fun c_107 => ?_) (fun c_107 => ?_)
          ·
            have hz0 : B 12 0 1 = 0 := c_107
            have hz0' : (e_qry n q0).2 12 0 1 = 0 := by rw [← hBq]; exact hz0
            have hA0 : A.2 12 0 1 = 0 := by
              rw [e_qry_2, ← hA] at hz0'
              split at hz0'
              · exact absurd hz0' (t_fail_ne (by decide))
              · exact hz0'
            obtain ⟨w0, w1, ⟨X9, hXc, hAX, hbits⟩, w3⟩ := hC4 hA0
            rw [List.nil_append] at w1
            have hX12 : X9 < 4096 := Nat.lt_of_lt_of_le hXc (p12 hmc)
            have hh1 : (e_h1 q0) 12 0 1 = 0 := (t_adv_1 _).symm.trans w0
            have hf8 : t_is q0 9 = true → ¬ t_is q0 8 = true := fun z => t_is_ne z (by decide)
            have hm8 : ¬ t_is q0 9 = true → t_is q0 8 = true := fun z => Classical.byContradiction fun y => by
              rw [e_h1_e, if_neg y, if_neg z] at hh1
              exact absurd hh1 (t_fail_ne (by decide))
            have hw1 : r_C p5 C := r_C_tf w1 hf5
            refine ca_iconst h dX12_query_119 ik_0 ?_
            refine ca_istore_n h dX12_query_120 rfl ?_
            refine ca_iconst h dX12_query_121 ik_0 ?_
            refine ca_istore h dX12_query_122 rfl ?_
            have loop_124 : ∀ (jj m : Nat), m + jj = k_mc n → ∀ (x3 : Int32) (e3 : x3 = nI (r_cn (fun i => X9.testBit i) m)) (x4 : Int32) (e4 : x4 = nI m) (g : Nat → Int32) (hfc : ¬ t_is q0 9 = true ∨ ∀ i, i < m → X9.testBit i = false) (hkq : t_is q0 9 = true → kq (fun i => decide (¬ nI X9 &&& e_bit i = 0)) (k_mc n) (k_mc n) = kq (fun i => decide (¬ nI X9 &&& e_bit i = 0)) (k_mc n) jj) (mm : ch_M) (em : mm = up μ 16 (na (nw (nw p5 22 0 12 0) 22 0 19 (if B 12 0 1 = 0 then -1 else B 12 0 5)) 33 0 g)), ch_W X E 5 S mm 0 0 124 [(0, .ref (S.1 16 22 0)), (1, .int (nI e)), (2, .int (bI (t_is q0 9))), (3, .int x3), (4, .int x4)] [] := by
              intro jj
              induction jj with
              | zero =>
                intro m hn x3 e3 x4 e4 g hfc hkq mm em
                have hn : m = k_mc n := by omega
                subst e3 e4 em
                refine ca_iload h dX12_query_124 rfl ?_
                refine ca_aload_nr h dX12_query_126 rfl ?_
                refine gs_X12_9 h hs ⟨rfl, rfl⟩ dX12_query_127 ?_
                refine ca_iconst h dX12_query_130 ik_2 ?_
                refine ca_iald h rfl (hs.1 _ _ _ ⟨rfl, rfl⟩) (vp_in_nI (n := 2) (N := 1302) (by decide) (by decide)) dX12_query_131 ?_
                refine ca_top (show _ = n 0 0 2 by rw [show Int32.toNatClampNeg 2 = 2 from rfl, up_s, na_k (by decide), nw_k (by decide), nw_k (by decide), hcA.1 23 (by decide) (by decide), nw_k (by decide), nw_k (by decide)]; exact hN.1 2 (by decide)) ?_
                refine ca_icmp_ge (tgt := 163) h dX12_query_132 (by decide) (fun c_132 => ?_) (fun c_132 => ?_)
                ·
                  refine ca_iload_n h dX12_query_163 rfl ?_
                  refine ca_if_eq (tgt := 171) h dX12_query_164 (by decide) (fun c_164 => ?_) (fun c_164 => ?_)
                  ·
                    have hfl : ¬ t_is q0 9 = true := fun z => bI_n0.mpr z c_164
                    refine ca_iload_n h dX12_query_171 rfl ?_
                    refine ca_ireturn h hR rfl dX12_query_172 ?_
                    refine ⟨by rw [if_pos hz0', e_qry_1, if_pos (hm8 hfl), ← hA, hAX, k_bc_b hmc hXc, hn], rfl, _, rfl, ?_, ?_⟩
                    · rw [na_k (by decide), nw_at, if_neg (by omega), nw_at, if_neg (by omega), hcA.2 6 (by omega), nw_at, if_neg (by omega), nw_at, if_pos ⟨rfl, rfl, rfl⟩]
                    · rw [← hBq]
                      exact r_J_33 (r_J_close (q := B) (r_J_tc (p := nw (nw (μ 16) 22 0 6 0) 22 0 24 0) (r_J_24 (r_J_th hJ)) hcA))
                  ·
                    have hfl : t_is q0 9 = true := bI_n0.mp c_164
                    refine ca_iconst h dX12_query_167 ik_m1 ?_
                    refine ca_goto (tgt := 172) h dX12_query_168 (by decide) ?_
                    refine ca_ireturn h hR rfl dX12_query_172 ?_
                    refine ⟨by rw [if_pos hz0', e_qry_1, if_neg (hf8 hfl), ← hA, hAX]; unfold e_fst; rw [hkq hfl]; rfl, rfl, _, rfl, ?_, ?_⟩
                    · rw [na_k (by decide), nw_at, if_neg (by omega), nw_at, if_neg (by omega), hcA.2 6 (by omega), nw_at, if_neg (by omega), nw_at, if_pos ⟨rfl, rfl, rfl⟩]
                    · rw [← hBq]
                      exact r_J_33 (r_J_close (q := B) (r_J_tc (p := nw (nw (μ 16) 22 0 6 0) 22 0 24 0) (r_J_24 (r_J_th hJ)) hcA))
                · exact absurd c_132 (by rw [show n 0 0 2 = nI (k_mc n) from (nI_cn h02).symm]; exact nI_nlt (by omega) (by omega))
              | succ jj ih_124 =>
                intro m hn x3 e3 x4 e4 g hfc hkq mm em
                have hn1 : m < k_mc n := by omega
                subst e3 e4 em
                refine ca_iload h dX12_query_124 rfl ?_
                refine ca_aload_nr h dX12_query_126 rfl ?_
                refine gs_X12_9 h hs ⟨rfl, rfl⟩ dX12_query_127 ?_
                refine ca_iconst h dX12_query_130 ik_2 ?_
                refine ca_iald h rfl (hs.1 _ _ _ ⟨rfl, rfl⟩) (vp_in_nI (n := 2) (N := 1302) (by decide) (by decide)) dX12_query_131 ?_
                refine ca_top (show _ = n 0 0 2 by rw [show Int32.toNatClampNeg 2 = 2 from rfl, up_s, na_k (by decide), nw_k (by decide), nw_k (by decide), hcA.1 23 (by decide) (by decide), nw_k (by decide), nw_k (by decide)]; exact hN.1 2 (by decide)) ?_
                refine ca_icmp_ge (tgt := 163) h dX12_query_132 (by decide) (fun c_132 => ?_) (fun c_132 => ?_)
                · exact absurd (by rw [show n 0 0 2 = nI (k_mc n) from (nI_cn h02).symm]; exact nI_lt hn1 (by omega)) c_132
                ·
                  refine ca_aload_nr h dX12_query_135 rfl ?_
                  refine ca_iload h dX12_query_136 rfl ?_
                  refine ca_vXi h hG ml_X12_417 (c_X12_holds hs (n := n) (m := m) (by rw [up_s, na_k (by decide), nw_k (by decide), nw_k (by decide), hcA.1 23 (by decide) (by decide), nw_k (by decide), nw_k (by decide)]; exact hN) hn1 (C := C) (v := r_bit X9 m) hw1.2.1 (by rw [up_s, na_k (by decide), nw_at, if_neg (by omega), nw_at, if_neg (by omega)]; exact hw1.1) (fun k hk => by rw [up_s, na_k (by decide), nw_k (by decide), nw_k (by decide)]; exact hw1.2.2 k hk) (by rw [hbits m hn1 []])) (ci := 12) rfl rfl rfl (hs.1 _ _ _ ⟨rfl, rfl⟩) rfl rfl rfl rfl ⟨Nat.le_refl _, Nat.le_refl _⟩ rfl dX12_query_138 ?_
                  intro μ9 hμ9
                  obtain ⟨g2, rfl⟩ := hμ9
                  rw [up_s, up_up, na_na]
                  refine ca_if_ne (tgt := 147) h dX12_query_141 (by decide) (fun c_141 => ?_) (fun c_141 => ?_)
                  ·
                    have hbit : X9.testBit m = true := (r_bit_1 X9 m).mp (of_decide_eq_true (bI_n0.mp c_141))
                    refine ca_iload_n h dX12_query_147 rfl ?_
                    refine ca_if_eq (tgt := 154) h dX12_query_148 (by decide) (fun c_148 => ?_) (fun c_148 => ?_)
                    ·
                      have hnf : ¬ t_is q0 9 = true := fun z => bI_n0.mpr z c_148
                      refine ca_iinc h dX12_query_154 rfl ik_1 rfl ?_
                      refine ca_iinc h dX12_query_157 rfl ik_1 rfl ?_
                      refine ca_goto (tgt := 124) h dX12_query_160 (by decide) ?_
                      refine ca_pick [2, 3, 4, 1, 0] rfl ?_
                      exact ih_124 (m + 1) (by omega) _ (by rw [nI_1]; show nI (r_cn (fun i => X9.testBit i) m + 1) = nI (r_cn (fun i => X9.testBit i) m + (if X9.testBit m = true then 1 else 0)); rw [if_pos hbit]) _ (nI_1 m) g2 (Or.inl hnf) (fun z => absurd z hnf) _ rfl
                    ·
                      have hfl : t_is q0 9 = true := bI_n0.mp c_148
                      refine ca_iload h dX12_query_151 rfl ?_
                      refine ca_ireturn h hR rfl dX12_query_153 ?_
                      refine ⟨by rw [if_pos hz0', e_qry_1, if_neg (hf8 hfl), ← hA, hAX]; unfold e_fst; rw [hkq hfl, kq_yes hn (by have hq : ¬ nI X9 &&& e_bit m = 0 := fun z => (by have := (e_bit_t hX12 (by omega)).mp z; rw [this] at hbit; exact absurd hbit (by decide)); exact decide_eq_true hq)], rfl, _, rfl, ?_, ?_⟩
                      · rw [na_k (by decide), nw_at, if_neg (by omega), nw_at, if_neg (by omega), hcA.2 6 (by omega), nw_at, if_neg (by omega), nw_at, if_pos ⟨rfl, rfl, rfl⟩]
                      · rw [← hBq]
                        exact r_J_33 (r_J_close (q := B) (r_J_tc (p := nw (nw (μ 16) 22 0 6 0) 22 0 24 0) (r_J_24 (r_J_th hJ)) hcA))
                  ·
                    refine ca_goto (tgt := 157) h dX12_query_144 (by decide) ?_
                    have hbit : X9.testBit m = false := Bool.eq_false_iff.mpr (fun z => of_decide_eq_false (bI_0.mp c_141) ((r_bit_1 X9 m).mpr z))
                    refine ca_iinc h dX12_query_157 rfl ik_1 rfl ?_
                    refine ca_goto (tgt := 124) h dX12_query_160 (by decide) ?_
                    refine ca_pick [1, 2, 3, 4, 0] rfl ?_
                    exact ih_124 (m + 1) (by omega) _ (by show nI (r_cn (fun i => X9.testBit i) m) = nI (r_cn (fun i => X9.testBit i) m + (if X9.testBit m = true then 1 else 0)); rw [if_neg (by rw [hbit]; decide)]; rfl) _ (nI_1 m) g2 (hfc.imp id (fun h i hi => by rcases Nat.lt_succ_iff_lt_or_eq.mp hi with z | z; exact h i z; rw [z]; exact hbit)) (fun z => (hkq z).trans (kq_no hn (fun y => of_decide_eq_true y ((e_bit_t hX12 (by omega)).mpr hbit)))) _ rfl
            refine ca_pick [3, 4, 2, 1, 0] rfl ?_
            exact loop_124 (k_mc n) 0 (Nat.zero_add _) _ rfl _ rfl (p5 33 0) (Or.inr (fun i hi => absurd hi (Nat.not_lt_zero _))) (fun _ => rfl) _ (congrArg (up μ 16) (by rw [show p5 33 0 = (nw (nw p5 22 0 12 0) 22 0 19 (if B 12 0 1 = 0 then -1 else B 12 0 5)) 33 0 from (by rw [nw_k (by decide), nw_k (by decide)]), na_id]))
          ·
            refine ca_ldcw h kw_1906 dX12_query_110 ?_
            refine ca_aload_nr h dX12_query_113 rfl ?_
            refine gi_X12_301 h (hs.1 _ _ _ ⟨rfl, rfl⟩) dX12_query_114 ?_
            refine ca_top (show _ = B 12 0 1 by rw [up_s, nw_at, if_neg (by omega), nw_at, if_neg (by omega)]; exact hX5.1.2.2.1) ?_
            refine ca_isub h dX12_query_117 ?_
            refine ca_ireturn h hR rfl dX12_query_118 ?_
            rw [← hBq]
            refine ⟨by rw [if_neg c_107], rfl, _, rfl, ?_, ?_⟩
            · rw [nw_at, if_neg (by omega), nw_at, if_neg (by omega), hcA.2 6 (by omega), nw_at, if_neg (by omega), nw_at, if_pos ⟨rfl, rfl, rfl⟩]
            · exact r_J_close (q := B) (r_J_tc (p := nw (nw (μ 16) 22 0 6 0) 22 0 24 0) (r_J_24 (r_J_th hJ)) hcA)
        ·
          refine ca_aload_nr h dX12_query_87 rfl ?_
          refine gi_X12_292 h (hs.1 _ _ _ ⟨rfl, rfl⟩) dX12_query_88 ?_
          refine ca_top (show _ = r_tok (A.2 12 0 7) by rw [up_s]; exact hX4.2.2.2.1) ?_
          refine ca_if_ne (tgt := 98) h dX12_query_91 (by decide) (fun c_91 => ?_) (fun c_91 => ?_)
          ·
            refine ca_iconst h dX12_query_98 ik_0 ?_
            have e99 : r_chk A.2 0 1 = (e_qry n q0).2 := by rw [e_qry_2, ← hA, t_go_e hX4, if_pos (decide_eq_true ⟨c_84, Classical.byContradiction fun z => c_91 ((r_tok0 hX4).mpr z)⟩)]; rfl
            refine ca_iconst h dX12_query_99 ik_1 ?_
            refine ca_vXv h hG ml_X12_328 (c_X12_check hs (q := A.2) (by rw [up_s]; exact hX4)) (ci := 12) rfl rfl rfl (hs.1 _ _ _ ⟨rfl, rfl⟩) rfl rfl rfl rfl ⟨Nat.le_refl _, Nat.le_refl _⟩ rfl dX12_query_100 ?_
            intro μ9 hμ9
            obtain ⟨p5, rfl, hX5, hf5⟩ := hμ9
            rw [e99] at hX5
            rw [up_up]
            rw [up_s] at hf5
            obtain ⟨B, hBq⟩ : ∃ z, z = (e_qry n q0).2 := ⟨_, rfl⟩
            rw [← hBq] at hX5
            have hcA : r_tc (nw (nw (μ 16) 22 0 6 0) 22 0 24 0) p5 := r_tc_tr (r_tc_tr (r_tc_tr r_tc_20 (r_tc_tf hfA)) hc4) (r_tc_tf hf5)
            refine ca_aload_nr h dX12_query_103 rfl ?_
            refine ca_vi h hG ml_X12_374 (c_X12_finish_ hs (q := B) (by rw [up_s]; exact hX5)) (ci := 12) rfl rfl rfl (hs.1 _ _ _ ⟨rfl, rfl⟩) rfl rfl rfl rfl ⟨Nat.le_refl _, Nat.le_refl _⟩ rfl dX12_query_104 ?_
            rw [up_s, up_up]
            refine ca_if_eq (tgt := 119) h dX12_query_107 (by decide) (fun c_107 => ?_) (fun c_107 => ?_)
            ·
              have hz0 : B 12 0 1 = 0 := c_107
              have hz0' : (e_qry n q0).2 12 0 1 = 0 := by rw [← hBq]; exact hz0
              have hA0 : A.2 12 0 1 = 0 := by
                rw [e_qry_2, ← hA] at hz0'
                split at hz0'
                · exact absurd hz0' (t_fail_ne (by decide))
                · exact hz0'
              obtain ⟨w0, w1, ⟨X9, hXc, hAX, hbits⟩, w3⟩ := hC4 hA0
              rw [List.nil_append] at w1
              have hX12 : X9 < 4096 := Nat.lt_of_lt_of_le hXc (p12 hmc)
              have hh1 : (e_h1 q0) 12 0 1 = 0 := (t_adv_1 _).symm.trans w0
              have hf8 : t_is q0 9 = true → ¬ t_is q0 8 = true := fun z => t_is_ne z (by decide)
              have hm8 : ¬ t_is q0 9 = true → t_is q0 8 = true := fun z => Classical.byContradiction fun y => by
                rw [e_h1_e, if_neg y, if_neg z] at hh1
                exact absurd hh1 (t_fail_ne (by decide))
              have hw1 : r_C p5 C := r_C_tf w1 hf5
              refine ca_iconst h dX12_query_119 ik_0 ?_
              refine ca_istore_n h dX12_query_120 rfl ?_
              refine ca_iconst h dX12_query_121 ik_0 ?_
              refine ca_istore h dX12_query_122 rfl ?_
              have loop_124 : ∀ (jj m : Nat), m + jj = k_mc n → ∀ (x3 : Int32) (e3 : x3 = nI (r_cn (fun i => X9.testBit i) m)) (x4 : Int32) (e4 : x4 = nI m) (g : Nat → Int32) (hfc : ¬ t_is q0 9 = true ∨ ∀ i, i < m → X9.testBit i = false) (hkq : t_is q0 9 = true → kq (fun i => decide (¬ nI X9 &&& e_bit i = 0)) (k_mc n) (k_mc n) = kq (fun i => decide (¬ nI X9 &&& e_bit i = 0)) (k_mc n) jj) (mm : ch_M) (em : mm = up μ 16 (na (nw (nw p5 22 0 12 0) 22 0 19 (if B 12 0 1 = 0 then -1 else B 12 0 5)) 33 0 g)), ch_W X E 5 S mm 0 0 124 [(0, .ref (S.1 16 22 0)), (1, .int (nI e)), (2, .int (bI (t_is q0 9))), (3, .int x3), (4, .int x4)] [] := by
                intro jj
                induction jj with
                | zero =>
                  intro m hn x3 e3 x4 e4 g hfc hkq mm em
                  have hn : m = k_mc n := by omega
                  subst e3 e4 em
                  refine ca_iload h dX12_query_124 rfl ?_
                  refine ca_aload_nr h dX12_query_126 rfl ?_
                  refine gs_X12_9 h hs ⟨rfl, rfl⟩ dX12_query_127 ?_
                  refine ca_iconst h dX12_query_130 ik_2 ?_
                  refine ca_iald h rfl (hs.1 _ _ _ ⟨rfl, rfl⟩) (vp_in_nI (n := 2) (N := 1302) (by decide) (by decide)) dX12_query_131 ?_
                  refine ca_top (show _ = n 0 0 2 by rw [show Int32.toNatClampNeg 2 = 2 from rfl, up_s, na_k (by decide), nw_k (by decide), nw_k (by decide), hcA.1 23 (by decide) (by decide), nw_k (by decide), nw_k (by decide)]; exact hN.1 2 (by decide)) ?_
                  refine ca_icmp_ge (tgt := 163) h dX12_query_132 (by decide) (fun c_132 => ?_) (fun c_132 => ?_)
                  ·
                    refine ca_iload_n h dX12_query_163 rfl ?_
                    refine ca_if_eq (tgt := 171) h dX12_query_164 (by decide) (fun c_164 => ?_) (fun c_164 => ?_)
                    ·
                      have hfl : ¬ t_is q0 9 = true := fun z => bI_n0.mpr z c_164
                      refine ca_iload_n h dX12_query_171 rfl ?_
                      refine ca_ireturn h hR rfl dX12_query_172 ?_
                      refine ⟨by rw [if_pos hz0', e_qry_1, if_pos (hm8 hfl), ← hA, hAX, k_bc_b hmc hXc, hn], rfl, _, rfl, ?_, ?_⟩
                      · rw [na_k (by decide), nw_at, if_neg (by omega), nw_at, if_neg (by omega), hcA.2 6 (by omega), nw_at, if_neg (by omega), nw_at, if_pos ⟨rfl, rfl, rfl⟩]
                      · rw [← hBq]
                        exact r_J_33 (r_J_close (q := B) (r_J_tc (p := nw (nw (μ 16) 22 0 6 0) 22 0 24 0) (r_J_24 (r_J_th hJ)) hcA))
                    ·
                      have hfl : t_is q0 9 = true := bI_n0.mp c_164
                      refine ca_iconst h dX12_query_167 ik_m1 ?_
                      refine ca_goto (tgt := 172) h dX12_query_168 (by decide) ?_
                      refine ca_ireturn h hR rfl dX12_query_172 ?_
                      refine ⟨by rw [if_pos hz0', e_qry_1, if_neg (hf8 hfl), ← hA, hAX]; unfold e_fst; rw [hkq hfl]; rfl, rfl, _, rfl, ?_, ?_⟩
                      · rw [na_k (by decide), nw_at, if_neg (by omega), nw_at, if_neg (by omega), hcA.2 6 (by omega), nw_at, if_neg (by omega), nw_at, if_pos ⟨rfl, rfl, rfl⟩]
                      · rw [← hBq]
                        exact r_J_33 (r_J_close (q := B) (r_J_tc (p := nw (nw (μ 16) 22 0 6 0) 22 0 24 0) (r_J_24 (r_J_th hJ)) hcA))
                  · exact absurd c_132 (by rw [show n 0 0 2 = nI (k_mc n) from (nI_cn h02).symm]; exact nI_nlt (by omega) (by omega))
                | succ jj ih_124 =>
                  intro m hn x3 e3 x4 e4 g hfc hkq mm em
                  have hn1 : m < k_mc n := by omega
                  subst e3 e4 em
                  refine ca_iload h dX12_query_124 rfl ?_
                  refine ca_aload_nr h dX12_query_126 rfl ?_
                  refine gs_X12_9 h hs ⟨rfl, rfl⟩ dX12_query_127 ?_
                  refine ca_iconst h dX12_query_130 ik_2 ?_
                  refine ca_iald h rfl (hs.1 _ _ _ ⟨rfl, rfl⟩) (vp_in_nI (n := 2) (N := 1302) (by decide) (by decide)) dX12_query_131 ?_
                  refine ca_top (show _ = n 0 0 2 by rw [show Int32.toNatClampNeg 2 = 2 from rfl, up_s, na_k (by decide), nw_k (by decide), nw_k (by decide), hcA.1 23 (by decide) (by decide), nw_k (by decide), nw_k (by decide)]; exact hN.1 2 (by decide)) ?_
                  refine ca_icmp_ge (tgt := 163) h dX12_query_132 (by decide) (fun c_132 => ?_) (fun c_132 => ?_)
                  · exact absurd (by rw [show n 0 0 2 = nI (k_mc n) from (nI_cn h02).symm]; exact nI_lt hn1 (by omega)) c_132
                  ·
                    refine ca_aload_nr h dX12_query_135 rfl ?_
                    refine ca_iload h dX12_query_136 rfl ?_
                    refine ca_vXi h hG ml_X12_417 (c_X12_holds hs (n := n) (m := m) (by rw [up_s, na_k (by decide), nw_k (by decide), nw_k (by decide), hcA.1 23 (by decide) (by decide), nw_k (by decide), nw_k (by decide)]; exact hN) hn1 (C := C) (v := r_bit X9 m) hw1.2.1 (by rw [up_s, na_k (by decide), nw_at, if_neg (by omega), nw_at, if_neg (by omega)]; exact hw1.1) (fun k hk => by rw [up_s, na_k (by decide), nw_k (by decide), nw_k (by decide)]; exact hw1.2.2 k hk) (by rw [hbits m hn1 []])) (ci := 12) rfl rfl rfl (hs.1 _ _ _ ⟨rfl, rfl⟩) rfl rfl rfl rfl ⟨Nat.le_refl _, Nat.le_refl _⟩ rfl dX12_query_138 ?_
                    intro μ9 hμ9
                    obtain ⟨g2, rfl⟩ := hμ9
                    rw [up_s, up_up, na_na]
                    refine ca_if_ne (tgt := 147) h dX12_query_141 (by decide) (fun c_141 => ?_) (fun c_141 => ?_)
                    ·
                      have hbit : X9.testBit m = true := (r_bit_1 X9 m).mp (of_decide_eq_true (bI_n0.mp c_141))
                      refine ca_iload_n h dX12_query_147 rfl ?_
                      refine ca_if_eq (tgt := 154) h dX12_query_148 (by decide) (fun c_148 => ?_) (fun c_148 => ?_)
                      ·
                        have hnf : ¬ t_is q0 9 = true := fun z => bI_n0.mpr z c_148
                        refine ca_iinc h dX12_query_154 rfl ik_1 rfl ?_
                        refine ca_iinc h dX12_query_157 rfl ik_1 rfl ?_
                        refine ca_goto (tgt := 124) h dX12_query_160 (by decide) ?_
                        refine ca_pick [2, 3, 4, 1, 0] rfl ?_
                        exact ih_124 (m + 1) (by omega) _ (by rw [nI_1]; show nI (r_cn (fun i => X9.testBit i) m + 1) = nI (r_cn (fun i => X9.testBit i) m + (if X9.testBit m = true then 1 else 0)); rw [if_pos hbit]) _ (nI_1 m) g2 (Or.inl hnf) (fun z => absurd z hnf) _ rfl
                      ·
                        have hfl : t_is q0 9 = true := bI_n0.mp c_148
                        refine ca_iload h dX12_query_151 rfl ?_
                        refine ca_ireturn h hR rfl dX12_query_153 ?_
                        refine ⟨by rw [if_pos hz0', e_qry_1, if_neg (hf8 hfl), ← hA, hAX]; unfold e_fst; rw [hkq hfl, kq_yes hn (by have hq : ¬ nI X9 &&& e_bit m = 0 := fun z => (by have := (e_bit_t hX12 (by omega)).mp z; rw [this] at hbit; exact absurd hbit (by decide)); exact decide_eq_true hq)], rfl, _, rfl, ?_, ?_⟩
                        · rw [na_k (by decide), nw_at, if_neg (by omega), nw_at, if_neg (by omega), hcA.2 6 (by omega), nw_at, if_neg (by omega), nw_at, if_pos ⟨rfl, rfl, rfl⟩]
                        · rw [← hBq]
                          exact r_J_33 (r_J_close (q := B) (r_J_tc (p := nw (nw (μ 16) 22 0 6 0) 22 0 24 0) (r_J_24 (r_J_th hJ)) hcA))
                    ·
                      refine ca_goto (tgt := 157) h dX12_query_144 (by decide) ?_
                      have hbit : X9.testBit m = false := Bool.eq_false_iff.mpr (fun z => of_decide_eq_false (bI_0.mp c_141) ((r_bit_1 X9 m).mpr z))
                      refine ca_iinc h dX12_query_157 rfl ik_1 rfl ?_
                      refine ca_goto (tgt := 124) h dX12_query_160 (by decide) ?_
                      refine ca_pick [1, 2, 3, 4, 0] rfl ?_
                      exact ih_124 (m + 1) (by omega) _ (by show nI (r_cn (fun i => X9.testBit i) m) = nI (r_cn (fun i => X9.testBit i) m + (if X9.testBit m = true then 1 else 0)); rw [if_neg (by rw [hbit]; decide)]; rfl) _ (nI_1 m) g2 (hfc.imp id (fun h i hi => by rcases Nat.lt_succ_iff_lt_or_eq.mp hi with z | z; exact h i z; rw [z]; exact hbit)) (fun z => (hkq z).trans (kq_no hn (fun y => of_decide_eq_true y ((e_bit_t hX12 (by omega)).mpr hbit)))) _ rfl
              refine ca_pick [3, 4, 2, 1, 0] rfl ?_
              exact loop_124 (k_mc n) 0 (Nat.zero_add _) _ rfl _ rfl (p5 33 0) (Or.inr (fun i hi => absurd hi (Nat.not_lt_zero _))) (fun _ => rfl) _ (congrArg (up μ 16) (by rw [show p5 33 0 = (nw (nw p5 22 0 12 0) 22 0 19 (if B 12 0 1 = 0 then -1 else B 12 0 5)) 33 0 from (by rw [nw_k (by decide), nw_k (by decide)]), na_id]))
            ·
              refine ca_ldcw h kw_1906 dX12_query_110 ?_
              refine ca_aload_nr h dX12_query_113 rfl ?_
              refine gi_X12_301 h (hs.1 _ _ _ ⟨rfl, rfl⟩) dX12_query_114 ?_
              refine ca_top (show _ = B 12 0 1 by rw [up_s, nw_at, if_neg (by omega), nw_at, if_neg (by omega)]; exact hX5.1.2.2.1) ?_
              refine ca_isub h dX12_query_117 ?_
              refine ca_ireturn h hR rfl dX12_query_118 ?_
              rw [← hBq]
              refine ⟨by rw [if_neg c_107], rfl, _, rfl, ?_, ?_⟩
              · rw [nw_at, if_neg (by omega), nw_at, if_neg (by omega), hcA.2 6 (by omega), nw_at, if_neg (by omega), nw_at, if_pos ⟨rfl, rfl, rfl⟩]
              · exact r_J_close (q := B) (r_J_tc (p := nw (nw (μ 16) 22 0 6 0) 22 0 24 0) (r_J_24 (r_J_th hJ)) hcA)
          ·
            refine ca_iconst h dX12_query_94 ik_1 ?_
            refine ca_goto (tgt := 99) h dX12_query_95 (by decide) ?_
            have e99 : r_chk A.2 1 1 = (e_qry n q0).2 := by rw [e_qry_2, ← hA, t_go_e hX4, if_neg (fun z => (r_tok0 hX4).mp c_91 (of_decide_eq_true z).2)]; rfl
            refine ca_iconst h dX12_query_99 ik_1 ?_
            refine ca_vXv h hG ml_X12_328 (c_X12_check hs (q := A.2) (by rw [up_s]; exact hX4)) (ci := 12) rfl rfl rfl (hs.1 _ _ _ ⟨rfl, rfl⟩) rfl rfl rfl rfl ⟨Nat.le_refl _, Nat.le_refl _⟩ rfl dX12_query_100 ?_
            intro μ9 hμ9
            obtain ⟨p5, rfl, hX5, hf5⟩ := hμ9
            rw [e99] at hX5
            rw [up_up]
            rw [up_s] at hf5
            obtain ⟨B, hBq⟩ : ∃ z, z = (e_qry n q0).2 := ⟨_, rfl⟩
            rw [← hBq] at hX5
            have hcA : r_tc (nw (nw (μ 16) 22 0 6 0) 22 0 24 0) p5 := r_tc_tr (r_tc_tr (r_tc_tr r_tc_20 (r_tc_tf hfA)) hc4) (r_tc_tf hf5)
            refine ca_aload_nr h dX12_query_103 rfl ?_
            refine ca_vi h hG ml_X12_374 (c_X12_finish_ hs (q := B) (by rw [up_s]; exact hX5)) (ci := 12) rfl rfl rfl (hs.1 _ _ _ ⟨rfl, rfl⟩) rfl rfl rfl rfl ⟨Nat.le_refl _, Nat.le_refl _⟩ rfl dX12_query_104 ?_
            rw [up_s, up_up]
            refine ca_if_eq (tgt := 119) h dX12_query_107 (by decide) (fun c_107 => ?_) (fun c_107 => ?_)
            ·
              have hz0 : B 12 0 1 = 0 := c_107
              have hz0' : (e_qry n q0).2 12 0 1 = 0 := by rw [← hBq]; exact hz0
              have hA0 : A.2 12 0 1 = 0 := by
                rw [e_qry_2, ← hA] at hz0'
                split at hz0'
                · exact absurd hz0' (t_fail_ne (by decide))
                · exact hz0'
              obtain ⟨w0, w1, ⟨X9, hXc, hAX, hbits⟩, w3⟩ := hC4 hA0
              rw [List.nil_append] at w1
              have hX12 : X9 < 4096 := Nat.lt_of_lt_of_le hXc (p12 hmc)
              have hh1 : (e_h1 q0) 12 0 1 = 0 := (t_adv_1 _).symm.trans w0
              have hf8 : t_is q0 9 = true → ¬ t_is q0 8 = true := fun z => t_is_ne z (by decide)
              have hm8 : ¬ t_is q0 9 = true → t_is q0 8 = true := fun z => Classical.byContradiction fun y => by
                rw [e_h1_e, if_neg y, if_neg z] at hh1
                exact absurd hh1 (t_fail_ne (by decide))
              have hw1 : r_C p5 C := r_C_tf w1 hf5
              refine ca_iconst h dX12_query_119 ik_0 ?_
              refine ca_istore_n h dX12_query_120 rfl ?_
              refine ca_iconst h dX12_query_121 ik_0 ?_
              refine ca_istore h dX12_query_122 rfl ?_
              have loop_124 : ∀ (jj m : Nat), m + jj = k_mc n → ∀ (x3 : Int32) (e3 : x3 = nI (r_cn (fun i => X9.testBit i) m)) (x4 : Int32) (e4 : x4 = nI m) (g : Nat → Int32) (hfc : ¬ t_is q0 9 = true ∨ ∀ i, i < m → X9.testBit i = false) (hkq : t_is q0 9 = true → kq (fun i => decide (¬ nI X9 &&& e_bit i = 0)) (k_mc n) (k_mc n) = kq (fun i => decide (¬ nI X9 &&& e_bit i = 0)) (k_mc n) jj) (mm : ch_M) (em : mm = up μ 16 (na (nw (nw p5 22 0 12 0) 22 0 19 (if B 12 0 1 = 0 then -1 else B 12 0 5)) 33 0 g)), ch_W X E 5 S mm 0 0 124 [(0, .ref (S.1 16 22 0)), (1, .int (nI e)), (2, .int (bI (t_is q0 9))), (3, .int x3), (4, .int x4)] [] := by
                intro jj
                induction jj with
                | zero =>
                  intro m hn x3 e3 x4 e4 g hfc hkq mm em
                  have hn : m = k_mc n := by omega
                  subst e3 e4 em
                  refine ca_iload h dX12_query_124 rfl ?_
                  refine ca_aload_nr h dX12_query_126 rfl ?_
                  refine gs_X12_9 h hs ⟨rfl, rfl⟩ dX12_query_127 ?_
                  refine ca_iconst h dX12_query_130 ik_2 ?_
                  refine ca_iald h rfl (hs.1 _ _ _ ⟨rfl, rfl⟩) (vp_in_nI (n := 2) (N := 1302) (by decide) (by decide)) dX12_query_131 ?_
                  refine ca_top (show _ = n 0 0 2 by rw [show Int32.toNatClampNeg 2 = 2 from rfl, up_s, na_k (by decide), nw_k (by decide), nw_k (by decide), hcA.1 23 (by decide) (by decide), nw_k (by decide), nw_k (by decide)]; exact hN.1 2 (by decide)) ?_
                  refine ca_icmp_ge (tgt := 163) h dX12_query_132 (by decide) (fun c_132 => ?_) (fun c_132 => ?_)
                  ·
                    refine ca_iload_n h dX12_query_163 rfl ?_
                    refine ca_if_eq (tgt := 171) h dX12_query_164 (by decide) (fun c_164 => ?_) (fun c_164 => ?_)
                    ·
                      have hfl : ¬ t_is q0 9 = true := fun z => bI_n0.mpr z c_164
                      refine ca_iload_n h dX12_query_171 rfl ?_
                      refine ca_ireturn h hR rfl dX12_query_172 ?_
                      refine ⟨by rw [if_pos hz0', e_qry_1, if_pos (hm8 hfl), ← hA, hAX, k_bc_b hmc hXc, hn], rfl, _, rfl, ?_, ?_⟩
                      · rw [na_k (by decide), nw_at, if_neg (by omega), nw_at, if_neg (by omega), hcA.2 6 (by omega), nw_at, if_neg (by omega), nw_at, if_pos ⟨rfl, rfl, rfl⟩]
                      · rw [← hBq]
                        exact r_J_33 (r_J_close (q := B) (r_J_tc (p := nw (nw (μ 16) 22 0 6 0) 22 0 24 0) (r_J_24 (r_J_th hJ)) hcA))
                    ·
                      have hfl : t_is q0 9 = true := bI_n0.mp c_164
                      refine ca_iconst h dX12_query_167 ik_m1 ?_
                      refine ca_goto (tgt := 172) h dX12_query_168 (by decide) ?_
                      refine ca_ireturn h hR rfl dX12_query_172 ?_
                      refine ⟨by rw [if_pos hz0', e_qry_1, if_neg (hf8 hfl), ← hA, hAX]; unfold e_fst; rw [hkq hfl]; rfl, rfl, _, rfl, ?_, ?_⟩
                      · rw [na_k (by decide), nw_at, if_neg (by omega), nw_at, if_neg (by omega), hcA.2 6 (by omega), nw_at, if_neg (by omega), nw_at, if_pos ⟨rfl, rfl, rfl⟩]
                      · rw [← hBq]
                        exact r_J_33 (r_J_close (q := B) (r_J_tc (p := nw (nw (μ 16) 22 0 6 0) 22 0 24 0) (r_J_24 (r_J_th hJ)) hcA))
                  · exact absurd c_132 (by rw [show n 0 0 2 = nI (k_mc n) from (nI_cn h02).symm]; exact nI_nlt (by omega) (by omega))
                | succ jj ih_124 =>
                  intro m hn x3 e3 x4 e4 g hfc hkq mm em
                  have hn1 : m < k_mc n := by omega
                  subst e3 e4 em
                  refine ca_iload h dX12_query_124 rfl ?_
                  refine ca_aload_nr h dX12_query_126 rfl ?_
                  refine gs_X12_9 h hs ⟨rfl, rfl⟩ dX12_query_127 ?_
                  refine ca_iconst h dX12_query_130 ik_2 ?_
                  refine ca_iald h rfl (hs.1 _ _ _ ⟨rfl, rfl⟩) (vp_in_nI (n := 2) (N := 1302) (by decide) (by decide)) dX12_query_131 ?_
                  refine ca_top (show _ = n 0 0 2 by rw [show Int32.toNatClampNeg 2 = 2 from rfl, up_s, na_k (by decide), nw_k (by decide), nw_k (by decide), hcA.1 23 (by decide) (by decide), nw_k (by decide), nw_k (by decide)]; exact hN.1 2 (by decide)) ?_
                  refine ca_icmp_ge (tgt := 163) h dX12_query_132 (by decide) (fun c_132 => ?_) (fun c_132 => ?_)
                  · exact absurd (by rw [show n 0 0 2 = nI (k_mc n) from (nI_cn h02).symm]; exact nI_lt hn1 (by omega)) c_132
                  ·
                    refine ca_aload_nr h dX12_query_135 rfl ?_
                    refine ca_iload h dX12_query_136 rfl ?_
                    refine ca_vXi h hG ml_X12_417 (c_X12_holds hs (n := n) (m := m) (by rw [up_s, na_k (by decide), nw_k (by decide), nw_k (by decide), hcA.1 23 (by decide) (by decide), nw_k (by decide), nw_k (by decide)]; exact hN) hn1 (C := C) (v := r_bit X9 m) hw1.2.1 (by rw [up_s, na_k (by decide), nw_at, if_neg (by omega), nw_at, if_neg (by omega)]; exact hw1.1) (fun k hk => by rw [up_s, na_k (by decide), nw_k (by decide), nw_k (by decide)]; exact hw1.2.2 k hk) (by rw [hbits m hn1 []])) (ci := 12) rfl rfl rfl (hs.1 _ _ _ ⟨rfl, rfl⟩) rfl rfl rfl rfl ⟨Nat.le_refl _, Nat.le_refl _⟩ rfl dX12_query_138 ?_
                    intro μ9 hμ9
                    obtain ⟨g2, rfl⟩ := hμ9
                    rw [up_s, up_up, na_na]
                    refine ca_if_ne (tgt := 147) h dX12_query_141 (by decide) (fun c_141 => ?_) (fun c_141 => ?_)
                    ·
                      have hbit : X9.testBit m = true := (r_bit_1 X9 m).mp (of_decide_eq_true (bI_n0.mp c_141))
                      refine ca_iload_n h dX12_query_147 rfl ?_
                      refine ca_if_eq (tgt := 154) h dX12_query_148 (by decide) (fun c_148 => ?_) (fun c_148 => ?_)
                      ·
                        have hnf : ¬ t_is q0 9 = true := fun z => bI_n0.mpr z c_148
                        refine ca_iinc h dX12_query_154 rfl ik_1 rfl ?_
                        refine ca_iinc h dX12_query_157 rfl ik_1 rfl ?_
                        refine ca_goto (tgt := 124) h dX12_query_160 (by decide) ?_
                        refine ca_pick [2, 3, 4, 1, 0] rfl ?_
                        exact ih_124 (m + 1) (by omega) _ (by rw [nI_1]; show nI (r_cn (fun i => X9.testBit i) m + 1) = nI (r_cn (fun i => X9.testBit i) m + (if X9.testBit m = true then 1 else 0)); rw [if_pos hbit]) _ (nI_1 m) g2 (Or.inl hnf) (fun z => absurd z hnf) _ rfl
                      ·
                        have hfl : t_is q0 9 = true := bI_n0.mp c_148
                        refine ca_iload h dX12_query_151 rfl ?_
                        refine ca_ireturn h hR rfl dX12_query_153 ?_
                        refine ⟨by rw [if_pos hz0', e_qry_1, if_neg (hf8 hfl), ← hA, hAX]; unfold e_fst; rw [hkq hfl, kq_yes hn (by have hq : ¬ nI X9 &&& e_bit m = 0 := fun z => (by have := (e_bit_t hX12 (by omega)).mp z; rw [this] at hbit; exact absurd hbit (by decide)); exact decide_eq_true hq)], rfl, _, rfl, ?_, ?_⟩
                        · rw [na_k (by decide), nw_at, if_neg (by omega), nw_at, if_neg (by omega), hcA.2 6 (by omega), nw_at, if_neg (by omega), nw_at, if_pos ⟨rfl, rfl, rfl⟩]
                        · rw [← hBq]
                          exact r_J_33 (r_J_close (q := B) (r_J_tc (p := nw (nw (μ 16) 22 0 6 0) 22 0 24 0) (r_J_24 (r_J_th hJ)) hcA))
                    ·
                      refine ca_goto (tgt := 157) h dX12_query_144 (by decide) ?_
                      have hbit : X9.testBit m = false := Bool.eq_false_iff.mpr (fun z => of_decide_eq_false (bI_0.mp c_141) ((r_bit_1 X9 m).mpr z))
                      refine ca_iinc h dX12_query_157 rfl ik_1 rfl ?_
                      refine ca_goto (tgt := 124) h dX12_query_160 (by decide) ?_
                      refine ca_pick [1, 2, 3, 4, 0] rfl ?_
                      exact ih_124 (m + 1) (by omega) _ (by show nI (r_cn (fun i => X9.testBit i) m) = nI (r_cn (fun i => X9.testBit i) m + (if X9.testBit m = true then 1 else 0)); rw [if_neg (by rw [hbit]; decide)]; rfl) _ (nI_1 m) g2 (hfc.imp id (fun h i hi => by rcases Nat.lt_succ_iff_lt_or_eq.mp hi with z | z; exact h i z; rw [z]; exact hbit)) (fun z => (hkq z).trans (kq_no hn (fun y => of_decide_eq_true y ((e_bit_t hX12 (by omega)).mpr hbit)))) _ rfl
              refine ca_pick [3, 4, 2, 1, 0] rfl ?_
              exact loop_124 (k_mc n) 0 (Nat.zero_add _) _ rfl _ rfl (p5 33 0) (Or.inr (fun i hi => absurd hi (Nat.not_lt_zero _))) (fun _ => rfl) _ (congrArg (up μ 16) (by rw [show p5 33 0 = (nw (nw p5 22 0 12 0) 22 0 19 (if B 12 0 1 = 0 then -1 else B 12 0 5)) 33 0 from (by rw [nw_k (by decide), nw_k (by decide)]), na_id]))
            ·
              refine ca_ldcw h kw_1906 dX12_query_110 ?_
              refine ca_aload_nr h dX12_query_113 rfl ?_
              refine gi_X12_301 h (hs.1 _ _ _ ⟨rfl, rfl⟩) dX12_query_114 ?_
              refine ca_top (show _ = B 12 0 1 by rw [up_s, nw_at, if_neg (by omega), nw_at, if_neg (by omega)]; exact hX5.1.2.2.1) ?_
              refine ca_isub h dX12_query_117 ?_
              refine ca_ireturn h hR rfl dX12_query_118 ?_
              rw [← hBq]
              refine ⟨by rw [if_neg c_107], rfl, _, rfl, ?_, ?_⟩
              · rw [nw_at, if_neg (by omega), nw_at, if_neg (by omega), hcA.2 6 (by omega), nw_at, if_neg (by omega), nw_at, if_pos ⟨rfl, rfl, rfl⟩]
              · exact r_J_close (q := B) (r_J_tc (p := nw (nw (μ 16) 22 0 6 0) 22 0 24 0) (r_J_24 (r_J_th hJ)) hcA)
  · exact absurd hxm (of_decide_eq_false (bI_0.mp c_20))
set_option maxHeartbeats 100000 in
theorem c_X12_queryR {l : Launch} {E : ch_E} {S : ch_S} {μ : ch_M} (hs : ch_Std E S) {n sn tx : ch_N} {F : Int32} {u : Nat} {hst : Nat → ch_N} (hJ : r_J n sn tx F u hst (μ 16)) {L : Nat} (hL : tx 12 0 0 = nI L) (hL7 : L ≤ 700)  {x : Int32} (hx : ¬ (¬ x < 0 ∧ ¬ (k_min (nI L) 200) < x)) : ch_C E l yX12_query cX12_query 5 (some FieldType.int) 28 0 0 S μ [.ref (S.1 16 22 0), .int x] (ch_F (some (.int (0))) S (r_th μ 1)) := by
  refine ch_enter rfl rfl ?_
  intro X hl0 h hG hR hnm
  have h : ch_H X E RX12 cX12_query 5 := h
  obtain ⟨L', hL1, hL2, hL3, hL4, hL5⟩ := id hJ.2.2.2
  have eLL : L' = L := (nI_eq (by omega) (by omega)).mp (hL2.symm.trans hL)
  show ch_W X E 5 S μ 0 0 0 [(0, .ref (S.1 16 22 0)), (1, .int x)] []
  refine ca_aload_nr h dX12_query_0 rfl ?_
  refine ca_iconst h dX12_query_1 ik_0 ?_
  refine pi_X12_70 h (hs.1 _ _ _ ⟨rfl, rfl⟩) dX12_query_2 ?_
  refine ca_mem (μ'' := r_th μ 0) rfl ?_
  refine ca_iload_n h dX12_query_5 rfl ?_
  refine ca_iconst h dX12_query_6 ik_0 ?_
  refine ca_aload_nr h dX12_query_7 rfl ?_
  refine gi_X12_277 h (hs.1 _ _ _ ⟨rfl, rfl⟩) dX12_query_8 ?_
  rw [show r_th μ 0 16 22 0 12 = nI L by rw [r_th_16, nw_at, if_neg (by omega), hL3, eLL]]
  refine ca_sipush h dX12_query_11 sk_200 ?_
  refine ca_mmin h hG rfl rfl rfl kw_1624 kw_486 kw_16 kw_487 (Nat.le_of_ble_eq_true rfl) dX12_query_14 ?_
  refine ca_si h hG ms_X12_73 (c_X12_inRange) rfl rfl rfl rfl ⟨Nat.le_refl _, Nat.le_refl _⟩ rfl dX12_query_17 ?_
  refine ca_if_ne (tgt := 29) h dX12_query_20 (by decide) (fun c_20 => ?_) (fun c_20 => ?_)
  ·
    exact absurd (of_decide_eq_true (bI_n0.mp c_20)) hx
  ·
    refine ca_aload_nr h dX12_query_23 rfl ?_
    refine ca_iconst h dX12_query_24 ik_1 ?_
    refine ca_vi h hG ml_X12_108 (c_X12_raise hs) (ci := 12) rfl rfl rfl (hs.1 _ _ _ ⟨rfl, rfl⟩) rfl rfl rfl rfl ⟨Nat.le_refl _, Nat.le_refl _⟩ rfl dX12_query_25 ?_
    refine ca_ireturn h hR rfl dX12_query_28 ?_
    exact ⟨rfl, rfl, by rw [r_th_th]⟩
