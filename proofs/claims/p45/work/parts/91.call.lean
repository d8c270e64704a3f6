/-! THE LAW'S OWN MODEL: a call set up -/
theorem o_suc {n : ch_N} {m s : Nat} (hs : s < k_cc n) : k_suc n m (nI s) = -1 ∨ ∃ b, b < k_cc n ∧ k_suc n m (nI s) = nI b := by
  unfold k_suc
  split
  · exact Or.inr ⟨s, hs, rfl⟩
  · rcases k_rc_inv n (nI s) (n 3 m 0) (n 3 m 1) (k_cc n) with ⟨e, -⟩ | ⟨b, hb, e, -⟩
    · exact Or.inl e
    · exact Or.inr ⟨b, hb, e⟩
theorem o_rc_s (n : ch_N) (s x y : Int32) (N : Nat) : k_rc n s x y (N + 1) = if ¬ n 2 (k_rx s (nI N)) 0 = 0 ∧ (k_rc n s x y N).2 < k_lv n N x y ∧ k_use n (nI N) x y = true ∧ k_free n (nI N) = true then (nI N, k_lv n N x y) else k_rc n s x y N := rfl
theorem o_begw {w w1 : Nat → Int32} {m : Nat} {c d : Int32} (e : ∀ i, i < 10 ∨ 210 ≤ i → w1 i = w i) (i : Nat) (hi : i < 10 ∨ 210 ≤ i) : r_beg (up w1 (210 + 91 * m + 6) d) m c i = up (r_beg w m c) (210 + 91 * m + 6) d i := by
  unfold r_beg
  rw [r_bgL_at _ _ _ _ (Nat.le_refl 8)]
  by_cases h6 : i = 210 + 91 * m + 6
  · subst h6
    rw [up_s, if_neg (by omega), if_neg (by omega)]
    unfold r_wd
    rw [up_n (by omega), up_n (by omega), up_n (by omega), up_n (by omega), up_s]
  · rw [up_n h6, r_bgL_at _ _ _ _ (Nat.le_refl 8)]
    split
    · rfl
    · split
      · rfl
      · unfold r_wd up
        split
        · rfl
        · split
          · rfl
          · split
            · rfl
            · split
              · rfl
              · first | exact e i hi | (rw [if_neg h6]; exact e i hi)
theorem k_beg_ne {n : ch_N} {i : Nat} {c : Int32} {kd : Nat} (h3 : kd ≠ 3) (h5 : kd ≠ 5) (h6 : kd ≠ 6) : k_beg n i c kd = n kd := by
  unfold k_beg k_clr
  rw [na_k h6, na_k h5, nw_k h3, nw_k h3, nw_k h3, nw_k h3]
theorem k_wfs_ne {n : ch_N} {i : Nat} {c t : Int32} {kd : Nat} (h3 : kd ≠ 3) : k_wfs n i c t kd = n kd := by
  unfold k_wfs k_mrq
  rw [nw_k h3, nw_k h3, nw_k h3]
set_option maxHeartbeats 200000 in
theorem c_X13_callB {l : Launch} {E : ch_E} {S : ch_S} {μ : ch_M} {n : ch_N} {w : Nat → Int32} (hN : o_NW n w S μ) {m : Nat} (hm : m < k_mc n) {d : Int32} (h0 : ¬ n 3 m 4 = 0) : ch_C E l yX13_call cX13_call 7 (some FieldType.int) 1 8 0 S μ [.ref (S.1 16 22 0), .int (nI m), .int d] (ch_F (some (.int (-2))) S (μ)) := by
  refine ch_enter rfl rfl ?_
  intro X hl0 h hG hR hnm
  have h : ch_H X E RX13 cX13_call 7 := h
  have hm12 := hN.m12
  have hc8 := hN.c8
  show ch_W X E 7 S μ 0 0 0 [(0, .ref (S.1 16 22 0)), (1, .int (nI m)), (2, .int d)] []
  refine ca_aload_nr h dX13_call_0 rfl ?_
  refine gr_X13_52 h (hN.st.1 _ _ _ (by show _ ∧ _; omega)) (hN.st.2.1 _ _ _ _ _ (by show _ ∧ _; omega) rfl) dX13_call_1 ?_
  show ch_W X E _ _ _ _ _ _ _ (.ref (S.1 16 25 0) :: _)
  refine ca_iload_n h dX13_call_4 rfl ?_
  refine oa_aald h (j := m) rfl (by decide) (hN.st.1 _ _ _ (by show _ ∧ _; omega)) rfl (by omega) (by decide) (hN.st.2.1 _ _ _ _ _ (by show _ ∧ _; omega) (o_rt25 (by omega))) dX13_call_5 ?_
  show ch_W X E _ _ _ _ _ _ _ (.ref (S.1 16 23 m) :: _)
  refine ca_astore_n h dX13_call_6 rfl ?_
  refine ca_aload_nr h dX13_call_7 rfl ?_
  refine gi_X13_88 h (hN.st.1 _ _ _ (by show _ ∧ _; omega)) dX13_call_8 ?_
  refine ca_top (y := n 3 m 4) (hN.mf (f := 4) (by omega) (by decide)) ?_
  refine ca_if_eq (tgt := 17) h dX13_call_11 (by decide) (fun c_11 => ?_) (fun c_11 => ?_)
  · exact absurd c_11 h0
  ·
    refine ca_bipush h dX13_call_14 bk_m2 ?_
    refine ca_widen (k := 8) (n := 0) (by omega) (by omega) ?_
    refine ca_ireturn h hR rfl dX13_call_16 ?_
    exact ⟨rfl, rfl, rfl⟩
set_option maxHeartbeats 200000 in
theorem c_X13_callU {l : Launch} {E : ch_E} {S : ch_S} {μ : ch_M} {n : ch_N} {w : Nat → Int32} (hN : o_NW n w S μ) {m : Nat} (hm : m < k_mc n) {d : Int32} (h0 : n 3 m 4 = 0) (hcv : k_cov n (n 3 m 0) (n 3 m 1) = -1) : ch_C E l yX13_call cX13_call 7 (some FieldType.int) 4 8 0 S μ [.ref (S.1 16 22 0), .int (nI m), .int d] (ch_F (some (.int (-4))) S (μ)) := by
  refine ch_enter rfl rfl ?_
  intro X hl0 h hG hR hnm
  have h : ch_H X E RX13 cX13_call 7 := h
  have hm12 := hN.m12
  have hc8 := hN.c8
  show ch_W X E 7 S μ 0 0 0 [(0, .ref (S.1 16 22 0)), (1, .int (nI m)), (2, .int d)] []
  refine ca_aload_nr h dX13_call_0 rfl ?_
  refine gr_X13_52 h (hN.st.1 _ _ _ (by show _ ∧ _; omega)) (hN.st.2.1 _ _ _ _ _ (by show _ ∧ _; omega) rfl) dX13_call_1 ?_
  show ch_W X E _ _ _ _ _ _ _ (.ref (S.1 16 25 0) :: _)
  refine ca_iload_n h dX13_call_4 rfl ?_
  refine oa_aald h (j := m) rfl (by decide) (hN.st.1 _ _ _ (by show _ ∧ _; omega)) rfl (by omega) (by decide) (hN.st.2.1 _ _ _ _ _ (by show _ ∧ _; omega) (o_rt25 (by omega))) dX13_call_5 ?_
  show ch_W X E _ _ _ _ _ _ _ (.ref (S.1 16 23 m) :: _)
  refine ca_astore_n h dX13_call_6 rfl ?_
  refine ca_aload_nr h dX13_call_7 rfl ?_
  refine gi_X13_88 h (hN.st.1 _ _ _ (by show _ ∧ _; omega)) dX13_call_8 ?_
  refine ca_top (y := n 3 m 4) (hN.mf (f := 4) (by omega) (by decide)) ?_
  refine ca_if_eq (tgt := 17) h dX13_call_11 (by decide) (fun c_11 => ?_) (fun c_11 => ?_)
  ·
    refine ca_aload_nr h dX13_call_17 rfl ?_
    refine ca_aload_nr h dX13_call_18 rfl ?_
    refine gi_X13_108 h (hN.st.1 _ _ _ (by show _ ∧ _; omega)) dX13_call_19 ?_
    refine ca_top (y := n 3 m 0) (hN.mf (f := 0) (by omega) (by decide)) ?_
    refine ca_aload_nr h dX13_call_22 rfl ?_
    refine gi_X13_111 h (hN.st.1 _ _ _ (by show _ ∧ _; omega)) dX13_call_23 ?_
    refine ca_top (y := n 3 m 1) (hN.mf (f := 1) (by omega) (by decide)) ?_
    refine oa_v h hG ml_X13_114 (c_X13_covers hN) (ci := 13) rfl rfl rfl (hN.st.1 _ _ _ (by show _ ∧ _; omega)) rfl rfl rfl rfl ⟨by omega, by omega⟩ rfl dX13_call_26 ?_
    rw [hcv]
    refine ca_istore h dX13_call_29 rfl ?_
    refine ca_iload h dX13_call_31 rfl ?_
    refine ca_if_ge (tgt := 39) h dX13_call_33 (by decide) (fun c_33 => ?_) (fun c_33 => ?_)
    · exact absurd (by decide) c_33
    ·
      refine ca_bipush h dX13_call_36 bk_m4 ?_
      refine ca_widen (k := 8) (n := 0) (by omega) (by omega) ?_
      refine ca_ireturn h hR rfl dX13_call_38 ?_
      exact ⟨rfl, rfl, rfl⟩
  · exact absurd h0 c_11
set_option maxHeartbeats 800000 in
theorem c_X13_call {l : Launch} {E : ch_E} {S : ch_S} {μ : ch_M} {n : ch_N} {w : Nat → Int32} (hN : o_NW n w S μ) (hKG : k_G n) {m : Nat} (hm : m < k_mc n) {d : Int32} (hd : ¬ d < 1) (h0 : n 3 m 4 = 0) {s : Nat} (hsc : s < k_cc n) (hcv : k_cov n (n 3 m 0) (n 3 m 1) = nI s) : ch_C E l yX13_call cX13_call 7 (some FieldType.int) 4 8 0 S μ [.ref (S.1 16 22 0), .int (nI m), .int d] (o_PS (some (.int (k_su n m d (nI s)).1)) (k_su n m d (nI s)).2 S μ) := by
  refine ch_enter rfl rfl ?_
  intro X hl0 h hG hR hnm
  have h : ch_H X E RX13 cX13_call 7 := h
  have hm12 := hN.m12
  have hc8 := hN.c8
  show ch_W X E 7 S μ 0 0 0 [(0, .ref (S.1 16 22 0)), (1, .int (nI m)), (2, .int d)] []
  refine ca_aload_nr h dX13_call_0 rfl ?_
  refine gr_X13_52 h (hN.st.1 _ _ _ (by show _ ∧ _; omega)) (hN.st.2.1 _ _ _ _ _ (by show _ ∧ _; omega) rfl) dX13_call_1 ?_
  show ch_W X E _ _ _ _ _ _ _ (.ref (S.1 16 25 0) :: _)
  refine ca_iload_n h dX13_call_4 rfl ?_
  refine oa_aald h (j := m) rfl (by decide) (hN.st.1 _ _ _ (by show _ ∧ _; omega)) rfl (by omega) (by decide) (hN.st.2.1 _ _ _ _ _ (by show _ ∧ _; omega) (o_rt25 (by omega))) dX13_call_5 ?_
  show ch_W X E _ _ _ _ _ _ _ (.ref (S.1 16 23 m) :: _)
  refine ca_astore_n h dX13_call_6 rfl ?_
  refine ca_aload_nr h dX13_call_7 rfl ?_
  refine gi_X13_88 h (hN.st.1 _ _ _ (by show _ ∧ _; omega)) dX13_call_8 ?_
  refine ca_top (y := n 3 m 4) (hN.mf (f := 4) (by omega) (by decide)) ?_
  refine ca_if_eq (tgt := 17) h dX13_call_11 (by decide) (fun c_11 => ?_) (fun c_11 => ?_)
  ·
    refine ca_aload_nr h dX13_call_17 rfl ?_
    refine ca_aload_nr h dX13_call_18 rfl ?_
    refine gi_X13_108 h (hN.st.1 _ _ _ (by show _ ∧ _; omega)) dX13_call_19 ?_
    refine ca_top (y := n 3 m 0) (hN.mf (f := 0) (by omega) (by decide)) ?_
    refine ca_aload_nr h dX13_call_22 rfl ?_
    refine gi_X13_111 h (hN.st.1 _ _ _ (by show _ ∧ _; omega)) dX13_call_23 ?_
    refine ca_top (y := n 3 m 1) (hN.mf (f := 1) (by omega) (by decide)) ?_
    refine oa_v h hG ml_X13_114 (c_X13_covers hN) (ci := 13) rfl rfl rfl (hN.st.1 _ _ _ (by show _ ∧ _; omega)) rfl rfl rfl rfl ⟨by omega, by omega⟩ rfl dX13_call_26 ?_
    rw [hcv]
    refine ca_istore h dX13_call_29 rfl ?_
    refine ca_iload h dX13_call_31 rfl ?_
    refine ca_if_ge (tgt := 39) h dX13_call_33 (by decide) (fun c_33 => ?_) (fun c_33 => ?_)
    ·
      have K_172 : ∀ (x5 : Int32) (e5 : x5 = k_suc n m (nI s)), ch_W X E 7 S μ 0 0 172 [(0, .ref (S.1 16 22 0)), (1, .int (nI m)), (2, .int d), (3, .ref (S.1 16 23 m)), (4, .int (nI s)), (5, .int x5)] [] := by
        intro x5 e5
        subst e5
        refine ca_iload h dX13_call_172 rfl ?_
        refine ca_if_lt (tgt := 208) h dX13_call_174 (by decide) (fun c_174 => ?_) (fun c_174 => ?_)
        ·
          have eb : k_suc n m (nI s) = -1 := (o_suc (m := m) hsc).resolve_right (fun ⟨b, hb, e⟩ => nI_pos (by omega) (e ▸ c_174))
          refine ca_aload_nr h dX13_call_208 rfl ?_
          refine ca_iload h dX13_call_209 rfl ?_
          refine oa_v h hG ml_X13_99 (c_X13_waits hN) (ci := 13) rfl rfl rfl (hN.st.1 _ _ _ (by show _ ∧ _; omega)) rfl rfl rfl rfl ⟨by omega, by omega⟩ rfl dX13_call_211 ?_
          refine ca_aload_nr h dX13_call_214 rfl ?_
          refine gr_X13_30 h (hN.st.1 _ _ _ (by show _ ∧ _; omega)) (hN.st.2.1 _ _ _ _ _ (by show _ ∧ _; omega) rfl) dX13_call_215 ?_
          show ch_W X E _ _ _ _ _ _ _ (.ref (S.1 16 24 0) :: _)
          refine ca_iload h dX13_call_218 rfl ?_
          refine oa_aald h (j := s) rfl (by decide) (hN.st.1 _ _ _ (by show _ ∧ _; omega)) rfl (by omega) (by decide) (hN.st.2.1 _ _ _ _ _ (by show _ ∧ _; omega) (o_rt240 (by omega))) dX13_call_220 ?_
          show ch_W X E _ _ _ _ _ _ _ (.ref (S.1 16 48 s) :: _)
          refine ca_iconst h dX13_call_221 ik_5 ?_
          refine oa_iald h (j := 5) rfl (hN.st.1 _ _ _ (by show _ ∧ _; omega)) rfl (by omega) (by decide) dX13_call_222 ?_
          refine ca_top (y := n 1 s 5) (hN.cf (by omega) (by decide)) ?_
          refine ca_icmp_ge (tgt := 258) h dX13_call_223 (by decide) (fun c_223 => ?_) (fun c_223 => ?_)
          ·
            refine ca_aload_nr h dX13_call_258 rfl ?_
            refine gr_X13_44 h (hN.st.1 _ _ _ (by show _ ∧ _; omega)) (hN.st.2.1 _ _ _ _ _ (by show _ ∧ _; omega) rfl) dX13_call_259 ?_
            show ch_W X E _ _ _ _ _ _ _ (.ref (S.1 16 48 32) :: _)
            refine ca_iconst h dX13_call_262 ik_4 ?_
            refine ca_dup2 h dX13_call_263 rfl rfl ?_
            refine oa_iald h (j := 4) rfl (hN.st.1 _ _ _ (by show _ ∧ _; omega)) rfl (by omega) (by decide) dX13_call_264 ?_
            refine ca_iconst h dX13_call_265 ik_1 ?_
            refine ca_iadd h dX13_call_266 ?_
            refine oa_iast h (j := 4) rfl (hN.st.1 _ _ _ (by show _ ∧ _; omega)) rfl (by omega) (by decide) dX13_call_267 ?_
            refine ca_bipush h dX13_call_268 bk_m5 ?_
            refine ca_widen (k := 8) (n := 0) (by omega) (by omega) ?_
            refine ca_ireturn h hR rfl dX13_call_270 ?_
            have hpl : ¬ k_place n (nI s) = true := by unfold k_place; rw [k_cel (by omega)]; exact fun z => c_223 (of_decide_eq_true z)
            have e1 : k_su n m d (nI s) = (-5, k_cnt n 4) := by
              unfold k_su
              rw [eb, if_pos rfl, if_neg hpl]
            rw [e1]
            refine ⟨rfl, o_fr_st o_fr_0, _, o_NW_mk hN.st (k_cc_0 (k_cnt_0 n 4)) (k_mc_0 (k_cnt_0 n 4)) (r_N_tot (t := 4) hN.rn (by decide)) ?_ ?_⟩
            · refine o_R_w (w := w) (o_R_48 hN.R (by decide)) (fun i hi => up_n (by omega))
            · exact o_A_tot hN.A hc8 (by decide) rfl
          ·
            refine ca_aload_nr h dX13_call_226 rfl ?_
            refine ca_iconst h dX13_call_227 ik_2 ?_
            refine pi_X13_88 h (hN.st.1 _ _ _ (by show _ ∧ _; omega)) dX13_call_228 ?_
            refine ca_aload_nr h dX13_call_231 rfl ?_
            refine ca_iload_n h dX13_call_232 rfl ?_
            refine pi_X13_125 h (hN.st.1 _ _ _ (by show _ ∧ _; omega)) dX13_call_233 ?_
            refine ca_aload_nr h dX13_call_236 rfl ?_
            refine ca_iload h dX13_call_237 rfl ?_
            refine pi_X13_96 h (hN.st.1 _ _ _ (by show _ ∧ _; omega)) dX13_call_239 ?_
            refine ca_aload_nr h dX13_call_242 rfl ?_
            refine ca_iconst h dX13_call_243 ik_1 ?_
            refine pi_X13_102 h (hN.st.1 _ _ _ (by show _ ∧ _; omega)) dX13_call_244 ?_
            refine ca_aload_nr h dX13_call_247 rfl ?_
            refine ca_aload_nr h dX13_call_248 rfl ?_
            refine gi_X13_63 h (hN.st.1 _ _ _ (by show _ ∧ _; omega)) dX13_call_249 ?_
            refine ca_top (y := n 0 0 3) (by (repeat rw [ch_st_at, if_neg (by omega)]); exact hN.clk) ?_
            refine pi_X13_105 h (hN.st.1 _ _ _ (by show _ ∧ _; omega)) dX13_call_252 ?_
            refine ca_bipush h dX13_call_255 bk_m3 ?_
            refine ca_widen (k := 8) (n := 0) (by omega) (by omega) ?_
            refine ca_ireturn h hR rfl dX13_call_257 ?_
            have hpl : k_place n (nI s) = true := by unfold k_place; rw [k_cel (by omega)]; exact decide_eq_true c_223
            have e1 : k_su n m d (nI s) = (-3, k_wfs (nw n 3 m 6 d) m (nI s) (nw n 3 m 6 d 0 0 3)) := by
              unfold k_su
              rw [eb, if_pos rfl, if_pos hpl]
            have hd0 : 0 < d := Int32.lt_of_lt_of_le (by decide) (Int32.not_lt.mp hd)
            have y0 : nw n 3 m 6 d 0 = n 0 := nw_k (by decide)
            have hr2 : r_N (nw n 3 m 6 d) (up w (210 + 91 * m + 6) d) := r_N_set hN.rn hm (by omega) (fun _ _ => hd0) (fun z => by omega)
            have hr3 := r_N_rqW hr2 (by rw [k_mc_0 y0]; exact hm) (c := s) (by rw [nw_at, if_neg (by omega)]; exact h0) (by rw [nw_at, if_pos ⟨rfl, rfl, rfl⟩]; exact hd0) (by rw [k_cc_0 y0]; exact hsc)
            have kk : ∀ kd, kd ≠ 3 → k_wfs (nw n 3 m 6 d) m (nI s) (nw n 3 m 6 d 0 0 3) kd = n kd := fun kd g3 => by rw [k_wfs_ne g3, nw_k g3]
            have x0 := kk 0 (by decide)
            have ew : up w (210 + 91 * m + 6) d 3 = n 0 0 3 := (up_n (by omega)).trans (hN.rn.1 3 (by decide))
            rw [e1]
            refine ⟨rfl, o_fr_st (o_fr_st (o_fr_st (o_fr_st (o_fr_st o_fr_0)))), _, o_NW_mk hN.st (k_cc_0 x0) (k_mc_0 x0) hr3 ?_ ?_⟩
            · unfold r_rq
              rw [ew, ← up_sw (show 210 + 91 * m + 4 ≠ 210 + 91 * m + 6 by omega)]
              exact o_R_mob (o_R_mob (o_R_mob (o_R_mob (o_R_mob hN.R (by decide)) (by decide)) (by decide)) (by decide)) (by decide)
            · have g8 : k_cc (k_wfs (nw n 3 m 6 d) m (nI s) (nw n 3 m 6 d 0 0 3)) ≤ 8 := by rw [k_cc_0 x0]; exact hc8
              refine o_A_mob (o_A_mob (o_A_mob (o_A_mob (o_A_mob (o_A_n hN.A (kk 1 (by decide)) (kk 2 (by decide)) (kk 7 (by decide)) (k_cc_0 x0)) g8) g8) g8) g8) g8
        ·
          obtain ⟨b, hb, eb⟩ := (o_suc (m := m) hsc).resolve_left (fun z => c_174 (by rw [z]; decide))
          rw [eb]
          refine ca_iload h dX13_call_177 rfl ?_
          refine ca_iload h dX13_call_179 rfl ?_
          refine ca_icmp_eq (tgt := 194) h dX13_call_181 (by decide) (fun c_181 => ?_) (fun c_181 => ?_)
          ·
            refine ca_aload_nr h dX13_call_194 rfl ?_
            refine ca_iload h dX13_call_195 rfl ?_
            refine oa_N h hG (host := "CellHandoverLaw") (List.mem_of_getElem? (i := 11) rfl) kw_767 ks_30 kw_25 kw_768 (n := 1) ⟨by decide, by decide, by decide +kernel⟩ (c_X12_begins hN.st hN.R hm) (ci := 12) rfl rfl rfl (hN.st.1 _ _ _ (by show _ ∧ _; omega)) rfl rfl rfl rfl ⟨by omega, by omega⟩ rfl dX13_call_197 ?_
            intro v S1 μ1 hp
            obtain ⟨rfl, hf, hst, hO, h48, h22⟩ := hp
            rw [← hf.2.1.1]
            show ch_W X E 7 S1 μ1 _ _ _ _ []
            refine ca_aload_nr h dX13_call_200 rfl ?_
            refine ca_iload_n h dX13_call_201 rfl ?_
            refine pi_X13_125 h (hst.1 _ _ _ (by show _ ∧ _; omega)) dX13_call_202 ?_
            refine ca_iload h dX13_call_205 rfl ?_
            refine ca_widen (k := 8) (n := 0) (by omega) (by omega) ?_
            refine ca_ireturn h hR rfl dX13_call_207 ?_
            have e1 : k_su n m d (nI s) = (nI b, k_beg (nw n 3 m 6 d) m (nI b)) := by
              unfold k_su
              rw [eb, if_neg (nI_nm1 (by omega)), if_pos c_181]
            have hd0 : 0 < d := Int32.lt_of_lt_of_le (by decide) (Int32.not_lt.mp hd)
            have hr1 : r_N n w := hN.rn
            have z0 : n 0 = n 0 := rfl
            have z2 : n 2 = n 2 := rfl
            have z1 : n 1 = n 1 := rfl
            have hr2 : r_N (nw n 3 m 6 d) (up w (210 + 91 * m + 6) d) := r_N_set hr1 (by rw [k_mc_0 z0]; exact hm) (by omega) (fun _ _ => hd0) (fun z => by omega)
            have y0 : nw n 3 m 6 d 0 = n 0 := (nw_k (by decide)).trans z0
            have hr3 := r_N_beg hr2 (by rw [k_mc_0 y0]; exact hm) (s := b) (by rw [k_cc_0 y0]; exact hb) (by rw [nw_at, if_pos ⟨rfl, rfl, rfl⟩]; exact hd0)
            have kk : ∀ kd, kd ≠ 3 → kd ≠ 5 → kd ≠ 6 → k_beg (nw n 3 m 6 d) m (nI b) kd = n kd := fun kd g3 g5 g6 => by rw [k_beg_ne g3 g5 g6, nw_k g3]
            have x0 : k_beg (nw n 3 m 6 d) m (nI b) 0 = n 0 := (kk 0 (by decide) (by decide) (by decide)).trans z0
            rw [e1]
            refine ⟨rfl, o_fr_st (o_fr_tr o_fr_0 hf), _, o_NW_mk hst (k_cc_0 x0) (k_mc_0 x0) hr3 (o_R_w (o_R_mob hO (by decide)) (fun i hi => o_begw (fun i hi => rfl) i hi)) ?_⟩
            have hA1 : o_A n μ := hN.A
            exact o_A_mob (o_A_m (o_A_n hA1 (kk 1 (by decide) (by decide) (by decide)) (kk 2 (by decide) (by decide) (by decide)) (kk 7 (by decide) (by decide) (by decide)) (by rw [k_cc_0 x0, k_cc_0 z0])) (by rw [k_cc_0 x0]; exact hc8) h48) (by rw [k_cc_0 x0]; exact hc8)
          ·
            refine ca_aload_nr h dX13_call_184 rfl ?_
            refine gr_X13_44 h (hN.st.1 _ _ _ (by show _ ∧ _; omega)) (hN.st.2.1 _ _ _ _ _ (by show _ ∧ _; omega) rfl) dX13_call_185 ?_
            show ch_W X E _ _ _ _ _ _ _ (.ref (S.1 16 48 32) :: _)
            refine ca_iconst h dX13_call_188 ik_5 ?_
            refine ca_dup2 h dX13_call_189 rfl rfl ?_
            refine oa_iald h (j := 5) rfl (hN.st.1 _ _ _ (by show _ ∧ _; omega)) rfl (by omega) (by decide) dX13_call_190 ?_
            refine ca_iconst h dX13_call_191 ik_1 ?_
            refine ca_iadd h dX13_call_192 ?_
            refine oa_iast h (j := 5) rfl (hN.st.1 _ _ _ (by show _ ∧ _; omega)) rfl (by omega) (by decide) dX13_call_193 ?_
            refine ca_aload_nr h dX13_call_194 rfl ?_
            refine ca_iload h dX13_call_195 rfl ?_
            refine oa_N h hG (host := "CellHandoverLaw") (List.mem_of_getElem? (i := 11) rfl) kw_767 ks_30 kw_25 kw_768 (n := 1) ⟨by decide, by decide, by decide +kernel⟩ (c_X12_begins hN.st (o_R_48 hN.R (by decide)) hm) (ci := 12) rfl rfl rfl (hN.st.1 _ _ _ (by show _ ∧ _; omega)) rfl rfl rfl rfl ⟨by omega, by omega⟩ rfl dX13_call_197 ?_
            intro v S1 μ1 hp
            obtain ⟨rfl, hf, hst, hO, h48, h22⟩ := hp
            rw [← hf.2.1.1]
            show ch_W X E 7 S1 μ1 _ _ _ _ []
            refine ca_aload_nr h dX13_call_200 rfl ?_
            refine ca_iload_n h dX13_call_201 rfl ?_
            refine pi_X13_125 h (hst.1 _ _ _ (by show _ ∧ _; omega)) dX13_call_202 ?_
            refine ca_iload h dX13_call_205 rfl ?_
            refine ca_widen (k := 8) (n := 0) (by omega) (by omega) ?_
            refine ca_ireturn h hR rfl dX13_call_207 ?_
            have e1 : k_su n m d (nI s) = (nI b, k_beg (nw (k_cnt n 5) 3 m 6 d) m (nI b)) := by
              unfold k_su
              rw [eb, if_neg (nI_nm1 (by omega)), if_neg c_181]
            have hd0 : 0 < d := Int32.lt_of_lt_of_le (by decide) (Int32.not_lt.mp hd)
            have hr1 : r_N (k_cnt n 5) (up w (10 + 5) (w (10 + 5) + 1)) := r_N_tot hN.rn (by decide)
            have z0 : (k_cnt n 5) 0 = n 0 := k_cnt_0 n 5
            have z2 : (k_cnt n 5) 2 = n 2 := nw_k (by decide)
            have z1 : (k_cnt n 5) 1 = n 1 := nw_k (by decide)
            have hr2 : r_N (nw (k_cnt n 5) 3 m 6 d) (up (up w (10 + 5) (w (10 + 5) + 1)) (210 + 91 * m + 6) d) := r_N_set hr1 (by rw [k_mc_0 z0]; exact hm) (by omega) (fun _ _ => hd0) (fun z => by omega)
            have y0 : nw (k_cnt n 5) 3 m 6 d 0 = n 0 := (nw_k (by decide)).trans z0
            have hr3 := r_N_beg hr2 (by rw [k_mc_0 y0]; exact hm) (s := b) (by rw [k_cc_0 y0]; exact hb) (by rw [nw_at, if_pos ⟨rfl, rfl, rfl⟩]; exact hd0)
            have kk : ∀ kd, kd ≠ 3 → kd ≠ 5 → kd ≠ 6 → k_beg (nw (k_cnt n 5) 3 m 6 d) m (nI b) kd = (k_cnt n 5) kd := fun kd g3 g5 g6 => by rw [k_beg_ne g3 g5 g6, nw_k g3]
            have x0 : k_beg (nw (k_cnt n 5) 3 m 6 d) m (nI b) 0 = n 0 := (kk 0 (by decide) (by decide) (by decide)).trans z0
            rw [e1]
            refine ⟨rfl, o_fr_st (o_fr_tr (o_fr_st o_fr_0) hf), _, o_NW_mk hst (k_cc_0 x0) (k_mc_0 x0) hr3 (o_R_w (o_R_mob hO (by decide)) (fun i hi => o_begw (fun i hi => up_n (by omega)) i hi)) ?_⟩
            have hA1 : o_A (k_cnt n 5) (ch_st μ 16 48 32 5 (μ 16 48 32 5 + 1)) := o_A_tot hN.A hc8 (by decide) rfl
            exact o_A_mob (o_A_m (o_A_n hA1 (kk 1 (by decide) (by decide) (by decide)) (kk 2 (by decide) (by decide) (by decide)) (kk 7 (by decide) (by decide) (by decide)) (by rw [k_cc_0 x0, k_cc_0 z0])) (by rw [k_cc_0 x0]; exact hc8) h48) (by rw [k_cc_0 x0]; exact hc8)
      refine ca_aload_nr h dX13_call_39 rfl ?_
      refine ca_iload h dX13_call_40 rfl ?_
      refine oa_v h hG ml_X13_117 (c_X13_free hN (c := s) (by omega)) (ci := 13) rfl rfl rfl (hN.st.1 _ _ _ (by show _ ∧ _; omega)) rfl rfl rfl rfl ⟨by omega, by omega⟩ rfl dX13_call_42 ?_
      refine ca_if_eq (tgt := 53) h dX13_call_45 (by decide) (fun c_45 => ?_) (fun c_45 => ?_)
      ·
        refine ca_iconst h dX13_call_53 ik_m1 ?_
        refine ca_istore h dX13_call_54 rfl ?_
        refine ca_iconst h dX13_call_56 ik_0 ?_
        refine ca_istore h dX13_call_57 rfl ?_
        have loop_59 : ∀ (jj b : Nat), b + jj = k_cc n → ∀ (x5 : Int32) (e5 : x5 = if k_free n (nI s) = true then nI s else (k_rc n (nI s) (n 3 m 0) (n 3 m 1) b).1), ch_W X E 7 S μ 0 0 59 [(0, .ref (S.1 16 22 0)), (1, .int (nI m)), (2, .int d), (3, .ref (S.1 16 23 m)), (4, .int (nI s)), (5, .int x5), (6, .int (nI b))] [] := by
          intro jj
          induction jj with
          | zero =>
            intro b hn x5 e5
            have hn : b = k_cc n := by omega
            subst e5
            refine ca_iload h dX13_call_59 rfl ?_
            refine ca_aload_nr h dX13_call_61 rfl ?_
            refine gi_X13_57 h (hN.st.1 _ _ _ (by show _ ∧ _; omega)) dX13_call_62 ?_
            refine ca_top (y := nI (k_cc n)) hN.cells ?_
            refine ca_icmp_ge (tgt := 172) h dX13_call_65 (by decide) (fun c_65 => ?_) (fun c_65 => ?_)
            ·
              refine ca_pick [0, 1, 2, 3, 4, 5] rfl ?_
              exact K_172 _ (by unfold k_suc; rw [hn])
            · exact absurd c_65 (by rw [hn]; exact Int32.lt_irrefl)
          | succ jj ih_59 =>
            intro b hn x5 e5
            have hn1 : b < k_cc n := by omega
            subst e5
            refine ca_iload h dX13_call_59 rfl ?_
            refine ca_aload_nr h dX13_call_61 rfl ?_
            refine gi_X13_57 h (hN.st.1 _ _ _ (by show _ ∧ _; omega)) dX13_call_62 ?_
            refine ca_top (y := nI (k_cc n)) hN.cells ?_
            refine ca_icmp_ge (tgt := 172) h dX13_call_65 (by decide) (fun c_65 => ?_) (fun c_65 => ?_)
            · exact absurd (nI_lt hn1 (by omega)) c_65
            ·
              refine ca_aload_nr h dX13_call_68 rfl ?_
              refine ca_iload h dX13_call_69 rfl ?_
              refine oa_v h hG ml_X13_117 (c_X13_free hN (c := s) (by omega)) (ci := 13) rfl rfl rfl (hN.st.1 _ _ _ (by show _ ∧ _; omega)) rfl rfl rfl rfl ⟨by omega, by omega⟩ rfl dX13_call_71 ?_
              refine ca_if_ne (tgt := 172) h dX13_call_74 (by decide) (fun c_74 => ?_) (fun c_74 => ?_)
              ·
                refine ca_pick [0, 1, 2, 3, 4, 5] rfl ?_
                exact K_172 _ (by unfold k_suc; rw [if_pos (bI_n0.mp c_74), if_pos (bI_n0.mp c_74)])
              ·
                have hfr : ¬ k_free n (nI s) = true := fun z => bI_n0.mpr z c_74
                refine ca_aload_nr h dX13_call_77 rfl ?_
                refine gr_X13_35 h (hN.st.1 _ _ _ (by show _ ∧ _; omega)) (hN.st.2.1 _ _ _ _ _ (by show _ ∧ _; omega) rfl) dX13_call_78 ?_
                show ch_W X E _ _ _ _ _ _ _ (.ref (S.1 16 24 1) :: _)
                refine ca_iload h dX13_call_81 rfl ?_
                refine oa_aald h (j := s) rfl (by decide) (hN.st.1 _ _ _ (by show _ ∧ _; omega)) rfl (by omega) (by decide) (hN.st.2.1 _ _ _ _ _ (by show _ ∧ _; omega) (o_rt241 (by omega))) dX13_call_83 ?_
                show ch_W X E _ _ _ _ _ _ _ (.ref (S.1 16 48 (8 + s)) :: _)
                refine ca_iload h dX13_call_84 rfl ?_
                refine oa_iald h (j := b) rfl (hN.st.1 _ _ _ (by show _ ∧ _; omega)) rfl (by omega) (by decide) dX13_call_86 ?_
                refine ca_top (y := (if n 2 (8 * s + b) 0 = 0 then -1 else n 2 (8 * s + b) 1)) (hN.hy (by omega) (by omega)) ?_
                refine ca_if_lt (tgt := 166) h dX13_call_87 (by decide) (fun c_87 => ?_) (fun c_87 => ?_)
                ·
                  have hx : n 2 (k_rx (nI s) (nI b)) 0 = 0 := by rw [r_rx (by omega) (by omega)]; exact Classical.byContradiction (fun z => hKG.2 (8 * s + b) (by omega) (by rw [if_neg z] at c_87; exact c_87))
                  refine ca_iinc h dX13_call_166 rfl ik_1 rfl ?_
                  rw [show nI b + 1 = nI (b + 1) from nI_1 _]
                  refine ca_goto (tgt := 59) h dX13_call_169 (by decide) ?_
                  refine ca_pick [1, 2, 3, 4, 5, 6, 0] rfl ?_
                  exact ih_59 (b + 1) (by omega) _ (by rw [if_neg hfr, if_neg hfr, o_rc_s, if_neg (fun z => z.1 hx)])
                ·
                  have hx : ¬ n 2 (k_rx (nI s) (nI b)) 0 = 0 := by rw [r_rx (by omega) (by omega)]; exact fun z => c_87 (by rw [if_pos z]; decide)
                  refine ca_aload_nr h dX13_call_90 rfl ?_
                  refine ca_iload h dX13_call_91 rfl ?_
                  refine oa_v h hG ml_X13_117 (c_X13_free hN (c := b) (by omega)) (ci := 13) rfl rfl rfl (hN.st.1 _ _ _ (by show _ ∧ _; omega)) rfl rfl rfl rfl ⟨by omega, by omega⟩ rfl dX13_call_93 ?_
                  refine ca_if_eq (tgt := 166) h dX13_call_96 (by decide) (fun c_96 => ?_) (fun c_96 => ?_)
                  ·
                    refine ca_iinc h dX13_call_166 rfl ik_1 rfl ?_
                    rw [show nI b + 1 = nI (b + 1) from nI_1 _]
                    refine ca_goto (tgt := 59) h dX13_call_169 (by decide) ?_
                    refine ca_pick [1, 2, 3, 4, 5, 6, 0] rfl ?_
                    exact ih_59 (b + 1) (by omega) _ (by rw [if_neg hfr, if_neg hfr, o_rc_s, if_neg (fun z => bI_n0.mpr z.2.2.2 c_96)])
                  ·
                    refine ca_aload_nr h dX13_call_99 rfl ?_
                    refine ca_iload h dX13_call_100 rfl ?_
                    refine ca_aload_nr h dX13_call_102 rfl ?_
                    refine gi_X13_108 h (hN.st.1 _ _ _ (by show _ ∧ _; omega)) dX13_call_103 ?_
                    refine ca_top (y := n 3 m 0) (hN.mf (f := 0) (by omega) (by decide)) ?_
                    refine ca_aload_nr h dX13_call_106 rfl ?_
                    refine gi_X13_111 h (hN.st.1 _ _ _ (by show _ ∧ _; omega)) dX13_call_107 ?_
                    refine ca_top (y := n 3 m 1) (hN.mf (f := 1) (by omega) (by decide)) ?_
                    refine oa_v h hG ml_X13_80 (c_X13_level hN (c := b) (by omega)) (ci := 13) rfl rfl rfl (hN.st.1 _ _ _ (by show _ ∧ _; omega)) rfl rfl rfl rfl ⟨by omega, by omega⟩ rfl dX13_call_110 ?_
                    refine ca_aload_nr h dX13_call_113 rfl ?_
                    refine gr_X13_30 h (hN.st.1 _ _ _ (by show _ ∧ _; omega)) (hN.st.2.1 _ _ _ _ _ (by show _ ∧ _; omega) rfl) dX13_call_114 ?_
                    show ch_W X E _ _ _ _ _ _ _ (.ref (S.1 16 24 0) :: _)
                    refine ca_iload h dX13_call_117 rfl ?_
                    refine oa_aald h (j := b) rfl (by decide) (hN.st.1 _ _ _ (by show _ ∧ _; omega)) rfl (by omega) (by decide) (hN.st.2.1 _ _ _ _ _ (by show _ ∧ _; omega) (o_rt240 (by omega))) dX13_call_119 ?_
                    show ch_W X E _ _ _ _ _ _ _ (.ref (S.1 16 48 b) :: _)
                    refine ca_bipush h dX13_call_120 bk_6 ?_
                    refine oa_iald h (j := 6) rfl (hN.st.1 _ _ _ (by show _ ∧ _; omega)) rfl (by omega) (by decide) dX13_call_122 ?_
                    refine ca_top (y := n 1 b 6) (hN.cf (by omega) (by decide)) ?_
                    refine ca_icmp_lt (tgt := 166) h dX13_call_123 (by decide) (fun c_123 => ?_) (fun c_123 => ?_)
                    ·
                      refine ca_iinc h dX13_call_166 rfl ik_1 rfl ?_
                      rw [show nI b + 1 = nI (b + 1) from nI_1 _]
                      refine ca_goto (tgt := 59) h dX13_call_169 (by decide) ?_
                      refine ca_pick [1, 2, 3, 4, 5, 6, 0] rfl ?_
                      exact ih_59 (b + 1) (by omega) _ (by rw [if_neg hfr, if_neg hfr, o_rc_s, if_neg (fun z => by have z9 := z.2.2.1; unfold k_use at z9; rw [k_cel (by omega), decide_eq_true c_123] at z9; cases z9)])
                    ·
                      refine ca_iload h dX13_call_126 rfl ?_
                      refine ca_if_lt (tgt := 162) h dX13_call_128 (by decide) (fun c_128 => ?_) (fun c_128 => ?_)
                      ·
                        have e2n : (k_rc n (nI s) (n 3 m 0) (n 3 m 1) b).2 = -1 := by rcases k_rc_inv n (nI s) (n 3 m 0) (n 3 m 1) b with ⟨-, z⟩ | ⟨q, hq, z, -⟩; (· exact z); (· rw [if_neg hfr, z] at c_128; exact absurd c_128 (nI_pos (by omega)))
                        refine ca_iload h dX13_call_162 rfl ?_
                        refine ca_istore h dX13_call_164 rfl ?_
                        refine ca_iinc h dX13_call_166 rfl ik_1 rfl ?_
                        rw [show nI b + 1 = nI (b + 1) from nI_1 _]
                        refine ca_goto (tgt := 59) h dX13_call_169 (by decide) ?_
                        refine ca_pick [2, 3, 4, 5, 6, 1, 0] rfl ?_
                        exact ih_59 (b + 1) (by omega) _ (by rw [if_neg hfr, o_rc_s, if_pos ⟨hx, by rw [e2n]; exact k_lv_nn _ _ _ _, by unfold k_use; rw [k_cel (by omega), decide_eq_false (Int32.not_lt.mpr (Int32.not_lt.mp c_123))]; rfl, bI_n0.mp c_96⟩])
                      ·
                        obtain ⟨q, hq, e1q, e2q⟩ : ∃ q, q < k_cc n ∧ (k_rc n (nI s) (n 3 m 0) (n 3 m 1) b).1 = nI q ∧ (k_rc n (nI s) (n 3 m 0) (n 3 m 1) b).2 = k_lv n q (n 3 m 0) (n 3 m 1) := by rcases k_rc_inv n (nI s) (n 3 m 0) (n 3 m 1) b with ⟨z, -⟩ | ⟨q, hq, z, z2⟩; (· rw [if_neg hfr, z] at c_128; exact absurd (by decide) c_128); (· exact ⟨q, by omega, z, z2⟩)
                        rw [if_neg hfr, e1q]
                        refine ca_aload_nr h dX13_call_131 rfl ?_
                        refine ca_iload h dX13_call_132 rfl ?_
                        refine ca_aload_nr h dX13_call_134 rfl ?_
                        refine gi_X13_108 h (hN.st.1 _ _ _ (by show _ ∧ _; omega)) dX13_call_135 ?_
                        refine ca_top (y := n 3 m 0) (hN.mf (f := 0) (by omega) (by decide)) ?_
                        refine ca_aload_nr h dX13_call_138 rfl ?_
                        refine gi_X13_111 h (hN.st.1 _ _ _ (by show _ ∧ _; omega)) dX13_call_139 ?_
                        refine ca_top (y := n 3 m 1) (hN.mf (f := 1) (by omega) (by decide)) ?_
                        refine oa_v h hG ml_X13_80 (c_X13_level hN (c := b) (by omega)) (ci := 13) rfl rfl rfl (hN.st.1 _ _ _ (by show _ ∧ _; omega)) rfl rfl rfl rfl ⟨by omega, by omega⟩ rfl dX13_call_142 ?_
                        refine ca_aload_nr h dX13_call_145 rfl ?_
                        refine ca_iload h dX13_call_146 rfl ?_
                        refine ca_aload_nr h dX13_call_148 rfl ?_
                        refine gi_X13_108 h (hN.st.1 _ _ _ (by show _ ∧ _; omega)) dX13_call_149 ?_
                        refine ca_top (y := n 3 m 0) (hN.mf (f := 0) (by omega) (by decide)) ?_
                        refine ca_aload_nr h dX13_call_152 rfl ?_
                        refine gi_X13_111 h (hN.st.1 _ _ _ (by show _ ∧ _; omega)) dX13_call_153 ?_
                        refine ca_top (y := n 3 m 1) (hN.mf (f := 1) (by omega) (by decide)) ?_
                        refine oa_v h hG ml_X13_80 (c_X13_level hN (c := q) hq) (ci := 13) rfl rfl rfl (hN.st.1 _ _ _ (by show _ ∧ _; omega)) rfl rfl rfl rfl ⟨by omega, by omega⟩ rfl dX13_call_156 ?_
                        refine ca_icmp_le (tgt := 166) h dX13_call_159 (by decide) (fun c_159 => ?_) (fun c_159 => ?_)
                        ·
                          refine ca_iinc h dX13_call_166 rfl ik_1 rfl ?_
                          rw [show nI b + 1 = nI (b + 1) from nI_1 _]
                          refine ca_goto (tgt := 59) h dX13_call_169 (by decide) ?_
                          refine ca_pick [1, 2, 3, 4, 5, 6, 0] rfl ?_
                          exact ih_59 (b + 1) (by omega) _ (by rw [if_neg hfr, o_rc_s, if_neg (fun z => c_159 (by rw [← e2q]; exact z.2.1)), e1q])
                        ·
                          refine ca_iload h dX13_call_162 rfl ?_
                          refine ca_istore h dX13_call_164 rfl ?_
                          refine ca_iinc h dX13_call_166 rfl ik_1 rfl ?_
                          rw [show nI b + 1 = nI (b + 1) from nI_1 _]
                          refine ca_goto (tgt := 59) h dX13_call_169 (by decide) ?_
                          refine ca_pick [2, 3, 4, 5, 6, 1, 0] rfl ?_
                          exact ih_59 (b + 1) (by omega) _ (by rw [if_neg hfr, o_rc_s, if_pos ⟨hx, by rw [e2q]; exact c_159, by unfold k_use; rw [k_cel (by omega), decide_eq_false (Int32.not_lt.mpr (Int32.not_lt.mp c_123))]; rfl, bI_n0.mp c_96⟩])
        refine ca_pick [4, 5, 6, 3, 2, 1, 0] rfl ?_
        exact loop_59 (k_cc n) 0 (by omega) _ (by rw [if_neg (fun z => bI_n0.mpr z c_45)]; rfl)
      ·
        refine ca_iload h dX13_call_48 rfl ?_
        refine ca_goto (tgt := 54) h dX13_call_50 (by decide) ?_
        refine ca_istore h dX13_call_54 rfl ?_
        refine ca_iconst h dX13_call_56 ik_0 ?_
        refine ca_istore h dX13_call_57 rfl ?_
        have loop_59 : ∀ (jj b : Nat), b + jj = k_cc n → ∀ (x5 : Int32) (e5 : x5 = if k_free n (nI s) = true then nI s else (k_rc n (nI s) (n 3 m 0) (n 3 m 1) b).1), ch_W X E 7 S μ 0 0 59 [(0, .ref (S.1 16 22 0)), (1, .int (nI m)), (2, .int d), (3, .ref (S.1 16 23 m)), (4, .int (nI s)), (5, .int x5), (6, .int (nI b))] [] := by
          intro jj
          induction jj with
          | zero =>
            intro b hn x5 e5
            have hn : b = k_cc n := by omega
            subst e5
            refine ca_iload h dX13_call_59 rfl ?_
            refine ca_aload_nr h dX13_call_61 rfl ?_
            refine gi_X13_57 h (hN.st.1 _ _ _ (by show _ ∧ _; omega)) dX13_call_62 ?_
            refine ca_top (y := nI (k_cc n)) hN.cells ?_
            refine ca_icmp_ge (tgt := 172) h dX13_call_65 (by decide) (fun c_65 => ?_) (fun c_65 => ?_)
            ·
              refine ca_pick [0, 1, 2, 3, 4, 5] rfl ?_
              exact K_172 _ (by unfold k_suc; rw [hn])
            · exact absurd c_65 (by rw [hn]; exact Int32.lt_irrefl)
          | succ jj ih_59 =>
            intro b hn x5 e5
            have hn1 : b < k_cc n := by omega
            subst e5
            refine ca_iload h dX13_call_59 rfl ?_
            refine ca_aload_nr h dX13_call_61 rfl ?_
            refine gi_X13_57 h (hN.st.1 _ _ _ (by show _ ∧ _; omega)) dX13_call_62 ?_
            refine ca_top (y := nI (k_cc n)) hN.cells ?_
            refine ca_icmp_ge (tgt := 172) h dX13_call_65 (by decide) (fun c_65 => ?_) (fun c_65 => ?_)
            · exact absurd (nI_lt hn1 (by omega)) c_65
            ·
              refine ca_aload_nr h dX13_call_68 rfl ?_
              refine ca_iload h dX13_call_69 rfl ?_
              refine oa_v h hG ml_X13_117 (c_X13_free hN (c := s) (by omega)) (ci := 13) rfl rfl rfl (hN.st.1 _ _ _ (by show _ ∧ _; omega)) rfl rfl rfl rfl ⟨by omega, by omega⟩ rfl dX13_call_71 ?_
              refine ca_if_ne (tgt := 172) h dX13_call_74 (by decide) (fun c_74 => ?_) (fun c_74 => ?_)
              ·
                refine ca_pick [0, 1, 2, 3, 4, 5] rfl ?_
                exact K_172 _ (by unfold k_suc; rw [if_pos (bI_n0.mp c_74), if_pos (bI_n0.mp c_74)])
              ·
                have hfr : ¬ k_free n (nI s) = true := fun z => bI_n0.mpr z c_74
                refine ca_aload_nr h dX13_call_77 rfl ?_
                refine gr_X13_35 h (hN.st.1 _ _ _ (by show _ ∧ _; omega)) (hN.st.2.1 _ _ _ _ _ (by show _ ∧ _; omega) rfl) dX13_call_78 ?_
                show ch_W X E _ _ _ _ _ _ _ (.ref (S.1 16 24 1) :: _)
                refine ca_iload h dX13_call_81 rfl ?_
                refine oa_aald h (j := s) rfl (by decide) (hN.st.1 _ _ _ (by show _ ∧ _; omega)) rfl (by omega) (by decide) (hN.st.2.1 _ _ _ _ _ (by show _ ∧ _; omega) (o_rt241 (by omega))) dX13_call_83 ?_
                show ch_W X E _ _ _ _ _ _ _ (.ref (S.1 16 48 (8 + s)) :: _)
                refine ca_iload h dX13_call_84 rfl ?_
                refine oa_iald h (j := b) rfl (hN.st.1 _ _ _ (by show _ ∧ _; omega)) rfl (by omega) (by decide) dX13_call_86 ?_
                refine ca_top (y := (if n 2 (8 * s + b) 0 = 0 then -1 else n 2 (8 * s + b) 1)) (hN.hy (by omega) (by omega)) ?_
                refine ca_if_lt (tgt := 166) h dX13_call_87 (by decide) (fun c_87 => ?_) (fun c_87 => ?_)
                ·
                  have hx : n 2 (k_rx (nI s) (nI b)) 0 = 0 := by rw [r_rx (by omega) (by omega)]; exact Classical.byContradiction (fun z => hKG.2 (8 * s + b) (by omega) (by rw [if_neg z] at c_87; exact c_87))
                  refine ca_iinc h dX13_call_166 rfl ik_1 rfl ?_
                  rw [show nI b + 1 = nI (b + 1) from nI_1 _]
                  refine ca_goto (tgt := 59) h dX13_call_169 (by decide) ?_
                  refine ca_pick [1, 2, 3, 4, 5, 6, 0] rfl ?_
                  exact ih_59 (b + 1) (by omega) _ (by rw [if_neg hfr, if_neg hfr, o_rc_s, if_neg (fun z => z.1 hx)])
                ·
                  have hx : ¬ n 2 (k_rx (nI s) (nI b)) 0 = 0 := by rw [r_rx (by omega) (by omega)]; exact fun z => c_87 (by rw [if_pos z]; decide)
                  refine ca_aload_nr h dX13_call_90 rfl ?_
                  refine ca_iload h dX13_call_91 rfl ?_
                  refine oa_v h hG ml_X13_117 (c_X13_free hN (c := b) (by omega)) (ci := 13) rfl rfl rfl (hN.st.1 _ _ _ (by show _ ∧ _; omega)) rfl rfl rfl rfl ⟨by omega, by omega⟩ rfl dX13_call_93 ?_
                  refine ca_if_eq (tgt := 166) h dX13_call_96 (by decide) (fun c_96 => ?_) (fun c_96 => ?_)
                  ·
                    refine ca_iinc h dX13_call_166 rfl ik_1 rfl ?_
                    rw [show nI b + 1 = nI (b + 1) from nI_1 _]
                    refine ca_goto (tgt := 59) h dX13_call_169 (by decide) ?_
                    refine ca_pick [1, 2, 3, 4, 5, 6, 0] rfl ?_
                    exact ih_59 (b + 1) (by omega) _ (by rw [if_neg hfr, if_neg hfr, o_rc_s, if_neg (fun z => bI_n0.mpr z.2.2.2 c_96)])
                  ·
                    refine ca_aload_nr h dX13_call_99 rfl ?_
                    refine ca_iload h dX13_call_100 rfl ?_
                    refine ca_aload_nr h dX13_call_102 rfl ?_
                    refine gi_X13_108 h (hN.st.1 _ _ _ (by show _ ∧ _; omega)) dX13_call_103 ?_
                    refine ca_top (y := n 3 m 0) (hN.mf (f := 0) (by omega) (by decide)) ?_
                    refine ca_aload_nr h dX13_call_106 rfl ?_
                    refine gi_X13_111 h (hN.st.1 _ _ _ (by show _ ∧ _; omega)) dX13_call_107 ?_
                    refine ca_top (y := n 3 m 1) (hN.mf (f := 1) (by omega) (by decide)) ?_
                    refine oa_v h hG ml_X13_80 (c_X13_level hN (c := b) (by omega)) (ci := 13) rfl rfl rfl (hN.st.1 _ _ _ (by show _ ∧ _; omega)) rfl rfl rfl rfl ⟨by omega, by omega⟩ rfl dX13_call_110 ?_
                    refine ca_aload_nr h dX13_call_113 rfl ?_
                    refine gr_X13_30 h (hN.st.1 _ _ _ (by show _ ∧ _; omega)) (hN.st.2.1 _ _ _ _ _ (by show _ ∧ _; omega) rfl) dX13_call_114 ?_
                    show ch_W X E _ _ _ _ _ _ _ (.ref (S.1 16 24 0) :: _)
                    refine ca_iload h dX13_call_117 rfl ?_
                    refine oa_aald h (j := b) rfl (by decide) (hN.st.1 _ _ _ (by show _ ∧ _; omega)) rfl (by omega) (by decide) (hN.st.2.1 _ _ _ _ _ (by show _ ∧ _; omega) (o_rt240 (by omega))) dX13_call_119 ?_
                    show ch_W X E _ _ _ _ _ _ _ (.ref (S.1 16 48 b) :: _)
                    refine ca_bipush h dX13_call_120 bk_6 ?_
                    refine oa_iald h (j := 6) rfl (hN.st.1 _ _ _ (by show _ ∧ _; omega)) rfl (by omega) (by decide) dX13_call_122 ?_
                    refine ca_top (y := n 1 b 6) (hN.cf (by omega) (by decide)) ?_
                    refine ca_icmp_lt (tgt := 166) h dX13_call_123 (by decide) (fun c_123 => ?_) (fun c_123 => ?_)
                    ·
                      refine ca_iinc h dX13_call_166 rfl ik_1 rfl ?_
                      rw [show nI b + 1 = nI (b + 1) from nI_1 _]
                      refine ca_goto (tgt := 59) h dX13_call_169 (by decide) ?_
                      refine ca_pick [1, 2, 3, 4, 5, 6, 0] rfl ?_
                      exact ih_59 (b + 1) (by omega) _ (by rw [if_neg hfr, if_neg hfr, o_rc_s, if_neg (fun z => by have z9 := z.2.2.1; unfold k_use at z9; rw [k_cel (by omega), decide_eq_true c_123] at z9; cases z9)])
                    ·
                      refine ca_iload h dX13_call_126 rfl ?_
                      refine ca_if_lt (tgt := 162) h dX13_call_128 (by decide) (fun c_128 => ?_) (fun c_128 => ?_)
                      ·
                        have e2n : (k_rc n (nI s) (n 3 m 0) (n 3 m 1) b).2 = -1 := by rcases k_rc_inv n (nI s) (n 3 m 0) (n 3 m 1) b with ⟨-, z⟩ | ⟨q, hq, z, -⟩; (· exact z); (· rw [if_neg hfr, z] at c_128; exact absurd c_128 (nI_pos (by omega)))
                        refine ca_iload h dX13_call_162 rfl ?_
                        refine ca_istore h dX13_call_164 rfl ?_
                        refine ca_iinc h dX13_call_166 rfl ik_1 rfl ?_
                        rw [show nI b + 1 = nI (b + 1) from nI_1 _]
                        refine ca_goto (tgt := 59) h dX13_call_169 (by decide) ?_
                        refine ca_pick [2, 3, 4, 5, 6, 1, 0] rfl ?_
                        exact ih_59 (b + 1) (by omega) _ (by rw [if_neg hfr, o_rc_s, if_pos ⟨hx, by rw [e2n]; exact k_lv_nn _ _ _ _, by unfold k_use; rw [k_cel (by omega), decide_eq_false (Int32.not_lt.mpr (Int32.not_lt.mp c_123))]; rfl, bI_n0.mp c_96⟩])
                      ·
                        obtain ⟨q, hq, e1q, e2q⟩ : ∃ q, q < k_cc n ∧ (k_rc n (nI s) (n 3 m 0) (n 3 m 1) b).1 = nI q ∧ (k_rc n (nI s) (n 3 m 0) (n 3 m 1) b).2 = k_lv n q (n 3 m 0) (n 3 m 1) := by rcases k_rc_inv n (nI s) (n 3 m 0) (n 3 m 1) b with ⟨z, -⟩ | ⟨q, hq, z, z2⟩; (· rw [if_neg hfr, z] at c_128; exact absurd (by decide) c_128); (· exact ⟨q, by omega, z, z2⟩)
                        rw [if_neg hfr, e1q]
                        refine ca_aload_nr h dX13_call_131 rfl ?_
                        refine ca_iload h dX13_call_132 rfl ?_
                        refine ca_aload_nr h dX13_call_134 rfl ?_
                        refine gi_X13_108 h (hN.st.1 _ _ _ (by show _ ∧ _; omega)) dX13_call_135 ?_
                        refine ca_top (y := n 3 m 0) (hN.mf (f := 0) (by omega) (by decide)) ?_
                        refine ca_aload_nr h dX13_call_138 rfl ?_
                        refine gi_X13_111 h (hN.st.1 _ _ _ (by show _ ∧ _; omega)) dX13_call_139 ?_
                        refine ca_top (y := n 3 m 1) (hN.mf (f := 1) (by omega) (by decide)) ?_
                        refine oa_v h hG ml_X13_80 (c_X13_level hN (c := b) (by omega)) (ci := 13) rfl rfl rfl (hN.st.1 _ _ _ (by show _ ∧ _; omega)) rfl rfl rfl rfl ⟨by omega, by omega⟩ rfl dX13_call_142 ?_
                        refine ca_aload_nr h dX13_call_145 rfl ?_
                        refine ca_iload h dX13_call_146 rfl ?_
                        refine ca_aload_nr h dX13_call_148 rfl ?_
                        refine gi_X13_108 h (hN.st.1 _ _ _ (by show _ ∧ _; omega)) dX13_call_149 ?_
                        refine ca_top (y := n 3 m 0) (hN.mf (f := 0) (by omega) (by decide)) ?_
                        refine ca_aload_nr h dX13_call_152 rfl ?_
                        refine gi_X13_111 h (hN.st.1 _ _ _ (by show _ ∧ _; omega)) dX13_call_153 ?_
                        refine ca_top (y := n 3 m 1) (hN.mf (f := 1) (by omega) (by decide)) ?_
                        refine oa_v h hG ml_X13_80 (c_X13_level hN (c := q) hq) (ci := 13) rfl rfl rfl (hN.st.1 _ _ _ (by show _ ∧ _; omega)) rfl rfl rfl rfl ⟨by omega, by omega⟩ rfl dX13_call_156 ?_
                        refine ca_icmp_le (tgt := 166) h dX13_call_159 (by decide) (fun c_159 => ?_) (fun c_159 => ?_)
                        ·
                          refine ca_iinc h dX13_call_166 rfl ik_1 rfl ?_
                          rw [show nI b + 1 = nI (b + 1) from nI_1 _]
                          refine ca_goto (tgt := 59) h dX13_call_169 (by decide) ?_
                          refine ca_pick [1, 2, 3, 4, 5, 6, 0] rfl ?_
                          exact ih_59 (b + 1) (by omega) _ (by rw [if_neg hfr, o_rc_s, if_neg (fun z => c_159 (by rw [← e2q]; exact z.2.1)), e1q])
                        ·
                          refine ca_iload h dX13_call_162 rfl ?_
                          refine ca_istore h dX13_call_164 rfl ?_
                          refine ca_iinc h dX13_call_166 rfl ik_1 rfl ?_
                          rw [show nI b + 1 = nI (b + 1) from nI_1 _]
                          refine ca_goto (tgt := 59) h dX13_call_169 (by decide) ?_
                          refine ca_pick [2, 3, 4, 5, 6, 1, 0] rfl ?_
                          exact ih_59 (b + 1) (by omega) _ (by rw [if_neg hfr, o_rc_s, if_pos ⟨hx, by rw [e2q]; exact c_159, by unfold k_use; rw [k_cel (by omega), decide_eq_false (Int32.not_lt.mpr (Int32.not_lt.mp c_123))]; rfl, bI_n0.mp c_96⟩])
        refine ca_pick [4, 5, 6, 3, 2, 1, 0] rfl ?_
        exact loop_59 (k_cc n) 0 (by omega) _ (by rw [if_pos (bI_n0.mp c_45)])
    · exact absurd c_33 (nI_pos (by omega))
  · exact absurd h0 c_11
