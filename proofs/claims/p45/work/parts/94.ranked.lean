/-! THE LAW'S OWN MODEL: ranked -/
def o_PK (n q : ch_N) (m : Nat) (S : ch_S) (μ : ch_M) : Option Value → ch_S → ch_M → Prop := fun v' S' μ' => ∃ t, t ≤ 8 ∧ v' = some (.ref (S'.1 22 (t + 40) 0)) ∧ o_fr S μ S' μ' ∧ (∃ w, o_NW n w S' μ') ∧ S'.2.1 22 (t + 40) 0 ∧ (k_rank n q m) 17 0 0 = nI t ∧ ∀ j, j < t → μ' 22 (t + 40) 0 j = (k_rank n q m) 18 0 j
def o_mg0 (g : Nat → Int32) (b : Nat) (M : Nat → Int32) : Prop := (∀ c, c < b → M c = if 0 < g c then g c else 0)
theorem o_mg0_s {g : Nat → Int32} {b : Nat} {M M' : Nat → Int32} (h : o_mg0 g b M) (e : ∀ c, c ≠ b → M' c = M c) (hb : M' b = if 0 < g b then g b else 0) : o_mg0 g (b + 1) M' := fun c hc => by
  by_cases e2 : c = b
  · rw [e2]; exact hb
  · rw [e c e2]; exact h c (by omega)
theorem o_gE {n : ch_N} {em : Int32} {m s b : Nat} (hs : s < 8) (hb : b < 8) (h5 : n 3 m 5 = nI s) : o_g n em m b = if n 2 (8 * s + b) 0 = 0 then 0 else if n 5 m b < n 0 0 5 then 0 else if em = 0 ∧ ¬ n 6 m b < n 0 0 3 then 0 else if k_avg n m (nI b) < n 1 b 6 then 0 else if em = 0 then k_avg n m (nI b) - k_avg n m (nI s) - n 2 (8 * s + b) 1 else k_avg n m (nI b) - k_avg n m (nI s) := by
  unfold o_g k_mg
  rw [h5, r_rx hs hb, k_rep_c hb, k_cel hb, k_isb_c hb]
  by_cases e : n 6 m b < n 0 0 3
  · simp [e]
  · simp [e]
set_option maxHeartbeats 1000000 in
theorem c_X13_ranked {l : Launch} {E : ch_E} {S : ch_S} {μ : ch_M} {n : ch_N} {w : Nat → Int32} (hN : o_NW n w S μ) (hKG : k_G n) {q : ch_N} {m s : Nat} (hm : m < k_mc n) (ht : n 3 m 4 = 1) (hsc : s < k_cc n) (h5 : n 3 m 5 = nI s) : ch_C E l yX13_ranked cX13_ranked 11 (some (FieldType.array FieldType.int)) 2 2 16 S μ [.ref (S.1 16 22 0), .int (nI m)] (o_PK n q m S μ) := by
  refine ch_enter rfl rfl ?_
  intro X hl0 h hG hR hnm
  have h : ch_H X E RX13 cX13_ranked 11 := h
  have hm12 := hN.m12
  have hc8 := hN.c8
  have hK0 : ¬ n 0 0 5 < 0 ∧ 0 < n 0 0 5 := ⟨Int32.not_lt.mpr (Int32.le_of_lt hN.rn.2.1.2.1.2.2.1), hN.rn.2.1.2.1.2.2.1⟩
  obtain ⟨Ns, ids, es5, hNs8, hvs, hrs, -⟩ := (hN.rp hm ht (show s < 8 by omega))
  show ch_W X E 11 S μ 0 0 0 [(0, .ref (S.1 16 22 0)), (1, .int (nI m))] []
  refine ca_aload_nr h dX13_ranked_0 rfl ?_
  refine gr_X13_52 h (hN.st.1 _ _ _ (by show _ ∧ _; omega)) (hN.st.2.1 _ _ _ _ _ (by show _ ∧ _; omega) rfl) dX13_ranked_1 ?_
  show ch_W X E _ _ _ _ _ _ _ (.ref (S.1 16 25 0) :: _)
  refine ca_iload_n h dX13_ranked_4 rfl ?_
  refine oa_aald h (j := m) rfl (by decide) (hN.st.1 _ _ _ (by show _ ∧ _; omega)) rfl (by omega) (by decide) (hN.st.2.1 _ _ _ _ _ (by show _ ∧ _; omega) (o_rt25 (by omega))) dX13_ranked_5 ?_
  show ch_W X E _ _ _ _ _ _ _ (.ref (S.1 16 23 m) :: _)
  refine ca_astore_n h dX13_ranked_6 rfl ?_
  refine ca_aload_nr h dX13_ranked_7 rfl ?_
  refine gi_X13_91 h (hN.st.1 _ _ _ (by show _ ∧ _; omega)) dX13_ranked_8 ?_
  refine ca_top (y := nI s) ((hN.mf (f := 5) (by omega) (by decide)).trans h5) ?_
  refine ca_istore_n h dX13_ranked_11 rfl ?_
  refine ca_iload_n h dX13_ranked_12 rfl ?_
  refine ca_if_lt (tgt := 34) h dX13_ranked_13 (by decide) (fun c_13 => ?_) (fun c_13 => ?_)
  · exact absurd c_13 (nI_pos (by omega))
  ·
    refine ca_aload_nr h dX13_ranked_16 rfl ?_
    refine gi_X13_88 h (hN.st.1 _ _ _ (by show _ ∧ _; omega)) dX13_ranked_17 ?_
    refine ca_top (y := n 3 m 4) (hN.mf (f := 4) (by omega) (by decide)) ?_
    refine ca_iconst h dX13_ranked_20 ik_1 ?_
    refine ca_icmp_ne (tgt := 34) h dX13_ranked_21 (by decide) (fun c_21 => ?_) (fun c_21 => ?_)
    · exact absurd ht c_21
    ·
      refine ca_aload_nr h dX13_ranked_24 rfl ?_
      refine gr_X13_134 h (hN.st.1 _ _ _ (by show _ ∧ _; omega)) (hN.st.2.1 _ _ _ _ _ (by show _ ∧ _; omega) rfl) dX13_ranked_25 ?_
      show ch_W X E _ _ _ _ _ _ _ (.ref (S.1 16 24 (8 + m)) :: _)
      refine ca_iload_n h dX13_ranked_28 rfl ?_
      refine oa_aald h (j := s) rfl (by decide) (hN.st.1 _ _ _ (by show _ ∧ _; omega)) rfl (by omega) (by decide) hrs dX13_ranked_29 ?_
      show ch_W X E _ _ _ _ _ _ _ (.ref (S.1 18 (Ns + 40) ids) :: _)
      refine oa_alen h (ch_kdn _) hvs es5.symm dX13_ranked_30 ?_
      refine ca_if_ne (tgt := 38) h dX13_ranked_31 (by decide) (fun c_31 => ?_) (fun c_31 => ?_)
      ·
        have hs0 : 0 < n 5 m s := by rcases r_avg hN.rn hm ht (show s < 8 by omega) with z | z; (· exact absurd z.1 c_31); (· exact z.1)
        have hav : ¬ k_avg n m (n 3 m 5) = -1 := by rw [h5]; rcases r_avg hN.rn hm ht (show s < 8 by omega) with z | z; (· exact absurd z.1 c_31); (· exact z.2.2)
        refine ca_aload_nr h dX13_ranked_38 rfl ?_
        refine ca_iload_n h dX13_ranked_39 rfl ?_
        refine oa_n h hG (host := "CellHandoverLaw") (List.mem_of_getElem? (i := 10) rfl) kw_743 ks_24 kw_25 kw_744 (n := 1) ⟨by decide, by decide, by decide +kernel⟩ (c_X12_average hN (c := s) hm ht (by omega) hs0) (ci := 12) rfl rfl rfl (hN.st.1 _ _ _ (by show _ ∧ _; omega)) rfl rfl rfl rfl ⟨by omega, by omega⟩ rfl dX13_ranked_40 ?_
        have K_60 : ∀ (x4 : Int32) (e4 : x4 = k_em n m), ch_W X E 11 S μ 0 0 60 [(0, .ref (S.1 16 22 0)), (1, .int (nI m)), (2, .ref (S.1 16 23 m)), (3, .int (nI s))] [.int x4] := by
          intro x4 e4
          subst e4
          refine ca_istore h dX13_ranked_60 rfl ?_
          refine ca_aload_nr h dX13_ranked_62 rfl ?_
          refine gi_X13_57 h (hN.st.1 _ _ _ (by show _ ∧ _; omega)) dX13_ranked_63 ?_
          refine ca_top (y := nI (k_cc n)) hN.cells ?_
          refine oa_newI 21 (k_cc n + 40) 0 (n := k_cc n) h hG (ch_bs16 hN.st) (ch_kdn _) kw_67 rfl (by omega) ⟨by omega, by omega⟩ dX13_ranked_66 ?_
          obtain ⟨S0, rfl⟩ : ∃ z, z = S := ⟨_, rfl⟩
          obtain ⟨μ0, rfl⟩ : ∃ z, z = μ := ⟨_, rfl⟩
          intro S μ hw
          rw [← o_nw_a hw (show 16 ≠ 21 by decide)]
          have hN := o_NW_nw hN hw (by decide) (by decide)
          have hf : o_fr S0 μ0 S μ := o_fr_nws hw (Or.inr (Or.inl rfl))
          refine ca_room (kc' := 1) (ks' := k_cc n) rfl (by omega) ?_
          refine ca_astore h dX13_ranked_68 rfl ?_
          refine ca_iconst h dX13_ranked_70 ik_0 ?_
          refine ca_istore h dX13_ranked_71 rfl ?_
          refine ca_iconst h dX13_ranked_73 ik_0 ?_
          refine ca_istore h dX13_ranked_74 rfl ?_
          have loop_76 : ∀ (jj b : Nat), b + jj = k_cc n → ∀ (μ : ch_M) (hN : o_NW n w S μ) (hf : o_fr S0 μ0 S μ) (hM : o_mg0 (o_g n (k_em n m) m) b (μ 21 (k_cc n + 40) 0)), ch_W X E 11 S μ 1 (k_cc n) 76 [(0, .ref (S.1 16 22 0)), (1, .int (nI m)), (2, .ref (S.1 16 23 m)), (3, .int (nI s)), (4, .int (k_em n m)), (5, .ref (S.1 21 (k_cc n + 40) 0)), (6, .int ((k_rkL n (k_em n m) m b (nw (nw q 17 0 0 0) 17 0 1 (k_em n m))) 17 0 0)), (7, .int (nI b))] [] := by
            intro jj
            induction jj with
            | zero =>
              intro b hn μ hN hf hM
              have hn : b = k_cc n := by omega
              refine ca_iload h dX13_ranked_76 rfl ?_
              refine ca_aload_nr h dX13_ranked_78 rfl ?_
              refine gi_X13_57 h (hN.st.1 _ _ _ (by show _ ∧ _; omega)) dX13_ranked_79 ?_
              refine ca_top (y := nI (k_cc n)) hN.cells ?_
              refine ca_icmp_ge (tgt := 216) h dX13_ranked_82 (by decide) (fun c_82 => ?_) (fun c_82 => ?_)
              ·
                obtain ⟨⟨t, C, hso⟩, -, hrk⟩ := o_rank (q := q) hc8 hav
                have ht8 : t ≤ 8 := by have := hso.1; omega
                rw [hn] at hM
                have ecnt : (k_rkL n (k_em n m) m b (nw (nw q 17 0 0 0) 17 0 1 (k_em n m))) 17 0 0 = nI t := by rw [hn, ← hrk]; exact hso.2.1
                rw [ecnt]
                refine ca_iload h dX13_ranked_216 rfl ?_
                refine oa_newI 22 (t + 40) 0 (n := t) h hG (ch_bs16 hN.st) (ch_kdn _) kw_67 rfl (by omega) ⟨by omega, by omega⟩ dX13_ranked_218 ?_
                obtain ⟨S1, rfl⟩ : ∃ z, z = S := ⟨_, rfl⟩
                obtain ⟨μ1, rfl⟩ : ∃ z, z = μ := ⟨_, rfl⟩
                intro S μ hw2
                have hv21 : S.2.1 21 (k_cc n + 40) 0 := by rw [o_nw_v hw2 (by decide)]; exact hw.1
                rw [← o_nw_a hw2 (show 16 ≠ 22 by decide), ← o_nw_a hw2 (show 21 ≠ 22 by decide)]
                have hN := o_NW_nw hN hw2 (by decide) (by decide)
                have hf := o_fr_tr hf (o_fr_nws hw2 (Or.inr (Or.inr rfl)))
                rw [← o_nw_m hw2 (show 21 ≠ 22 by decide)] at hM
                have hM : o_mk (o_g n (k_em n m) m) C 0 (μ 21 (k_cc n + 40) 0) (k_cc n) := fun c hc => ⟨fun ⟨j, hj, _⟩ => absurd hj (Nat.not_lt_zero _), fun _ => hM c hc⟩
                refine ca_room (kc' := 2) (ks' := k_cc n + t) rfl (by omega) ?_
                refine ca_astore h dX13_ranked_220 rfl ?_
                refine ca_iconst h dX13_ranked_222 ik_0 ?_
                refine ca_istore h dX13_ranked_223 rfl ?_
                have loop_225 : ∀ (jj k : Nat), k + jj = t → ∀ (μ : ch_M) (hN : o_NW n w S μ) (hf : o_fr S0 μ0 S μ) (hM : o_mk (o_g n (k_em n m) m) C k (μ 21 (k_cc n + 40) 0) (k_cc n)) (hB : ∀ j, j < k → μ 22 (t + 40) 0 j = nI (C j)), ch_W X E 11 S μ 2 (k_cc n + t) 225 [(0, .ref (S.1 16 22 0)), (5, .ref (S.1 21 (k_cc n + 40) 0)), (6, .int (nI t)), (7, .ref (S.1 22 (t + 40) 0)), (8, .int (nI k))] [] := by
                  intro jj
                  induction jj with
                  | zero =>
                    intro k hn μ hN hf hM hB
                    have hn : k = t := by omega
                    refine ca_iload h dX13_ranked_225 rfl ?_
                    refine ca_iload h dX13_ranked_227 rfl ?_
                    refine ca_icmp_ge (tgt := 289) h dX13_ranked_229 (by decide) (fun c_229 => ?_) (fun c_229 => ?_)
                    ·
                      refine ca_aload h dX13_ranked_289 rfl ?_
                      refine ca_widen (k := 2) (n := 16) (by omega) (by omega) ?_
                      refine oa_aretI h hR dX13_ranked_291 ?_
                      rw [hn] at hB
                      exact ⟨t, ht8, rfl, hf, ⟨w, hN⟩, hw2.1, hso.2.1, fun j hj => by rw [hB j hj]; exact ((hso.2.2.1 j hj).2.1).symm⟩
                    · exact absurd c_229 (by rw [hn]; exact Int32.lt_irrefl)
                  | succ jj ih_225 =>
                    intro k hn μ hN hf hM hB
                    have hn1 : k < t := by omega
                    have hkt : k < t := hn1
                    have hc1 : 1 ≤ k_cc n := by have := (hso.2.2.1 k hn1).1; omega
                    refine ca_iload h dX13_ranked_225 rfl ?_
                    refine ca_iload h dX13_ranked_227 rfl ?_
                    refine ca_icmp_ge (tgt := 289) h dX13_ranked_229 (by decide) (fun c_229 => ?_) (fun c_229 => ?_)
                    · exact absurd (nI_lt hn1 (by omega)) c_229
                    ·
                      refine ca_iconst h dX13_ranked_232 ik_0 ?_
                      refine ca_istore h dX13_ranked_233 rfl ?_
                      refine ca_iconst h dX13_ranked_235 ik_1 ?_
                      refine ca_istore h dX13_ranked_236 rfl ?_
                      have loop_238 : ∀ (jj b : Nat), b + jj = k_cc n - 1 → ∀ (a : Nat) (hX : o_fx (μ 21 (k_cc n + 40) 0) (b + 1) a), ch_W X E 11 S μ 2 (k_cc n + t) 238 [(0, .ref (S.1 16 22 0)), (5, .ref (S.1 21 (k_cc n + 40) 0)), (6, .int (nI t)), (7, .ref (S.1 22 (t + 40) 0)), (8, .int (nI k)), (9, .int (nI a)), (10, .int (nI (b + 1)))] [] := by
                        intro jj
                        induction jj with
                        | zero =>
                          intro b hn a hX
                          have hn : b = k_cc n - 1 := by omega
                          have ha8 := hX.1
                          rw [hn, Nat.sub_add_cancel hc1] at hX
                          refine ca_iload h dX13_ranked_238 rfl ?_
                          refine ca_aload_nr h dX13_ranked_240 rfl ?_
                          refine gi_X13_57 h (hN.st.1 _ _ _ (by show _ ∧ _; omega)) dX13_ranked_241 ?_
                          refine ca_top (y := nI (k_cc n)) hN.cells ?_
                          refine ca_icmp_ge (tgt := 270) h dX13_ranked_244 (by decide) (fun c_244 => ?_) (fun c_244 => ?_)
                          ·
                            refine ca_aload h dX13_ranked_270 rfl ?_
                            refine ca_iload h dX13_ranked_272 rfl ?_
                            refine ca_iload h dX13_ranked_274 rfl ?_
                            refine oa_iastN h (j := k) (ch_kdn _) hw2.1 rfl hkt (by omega) dX13_ranked_276 ?_
                            have hN := o_NW_st (k := 22) (kd := t + 40) (i := 0) (j := k) (v := nI a) hN (by decide) (by decide)
                            have hf := o_fr_sst (k := 22) (kd := t + 40) (i := 0) (j := k) (v := nI a) hf (Or.inr (Or.inr rfl))
                            refine ca_aload h dX13_ranked_277 rfl ?_
                            refine ca_iload h dX13_ranked_279 rfl ?_
                            refine ca_iconst h dX13_ranked_281 ik_0 ?_
                            refine oa_iastN h (j := a) (ch_kdn _) hv21 rfl (by omega) (by omega) dX13_ranked_282 ?_
                            have hN := o_NW_st (k := 21) (kd := k_cc n + 40) (i := 0) (j := a) (v := 0) hN (by decide) (by decide)
                            have hf := o_fr_sst (k := 21) (kd := k_cc n + 40) (i := 0) (j := a) (v := 0) hf (Or.inr (Or.inl rfl))
                            have ea := o_sel hso hkt hM hX
                            have hM := o_mk_s (M' := (ch_st (ch_st μ 22 (t + 40) 0 k (nI a)) 21 (k_cc n + 40) 0 a 0) 21 (k_cc n + 40) 0) hso hkt hM (by rw [← ea, ch_st_at, if_pos ⟨rfl, rfl, rfl, rfl⟩]) (fun c hc => by rw [ch_st_at, if_neg (fun z => hc (z.2.2.2.trans ea)), ch_st_ne (by omega)])
                            have hB : ∀ j, j < k + 1 → (ch_st (ch_st μ 22 (t + 40) 0 k (nI a)) 21 (k_cc n + 40) 0 a 0) 22 (t + 40) 0 j = nI (C j) := fun j hj => by
                              rw [ch_st_ne (by omega), ch_st_at]
                              by_cases z : j = k
                              · rw [if_pos ⟨rfl, rfl, rfl, z⟩, z, ea]
                              · rw [if_neg (fun y => z y.2.2.2)]; exact hB j (by omega)
                            refine ca_iinc h dX13_ranked_283 rfl ik_1 rfl ?_
                            rw [show nI k + 1 = nI (k + 1) from nI_1 _]
                            refine ca_goto (tgt := 225) h dX13_ranked_286 (by decide) ?_
                            refine ca_pick [1, 2, 3, 4, 0] rfl ?_
                            exact ih_225 (k + 1) (by omega) _ hN hf hM hB
                          · exact absurd c_244 (by rw [hn, Nat.sub_add_cancel hc1]; exact Int32.lt_irrefl)
                        | succ jj ih_238 =>
                          intro b hn a hX
                          have hn1 : b < k_cc n - 1 := by omega
                          have ha8 := hX.1
                          refine ca_iload h dX13_ranked_238 rfl ?_
                          refine ca_aload_nr h dX13_ranked_240 rfl ?_
                          refine gi_X13_57 h (hN.st.1 _ _ _ (by show _ ∧ _; omega)) dX13_ranked_241 ?_
                          refine ca_top (y := nI (k_cc n)) hN.cells ?_
                          refine ca_icmp_ge (tgt := 270) h dX13_ranked_244 (by decide) (fun c_244 => ?_) (fun c_244 => ?_)
                          · exact absurd (nI_lt (show b + 1 < k_cc n by omega) (by omega)) c_244
                          ·
                            refine ca_aload h dX13_ranked_247 rfl ?_
                            refine ca_iload h dX13_ranked_249 rfl ?_
                            refine oa_ialdN h (j := (b + 1)) (ch_kdn _) hv21 rfl (by omega) (by omega) dX13_ranked_251 ?_
                            refine ca_aload h dX13_ranked_252 rfl ?_
                            refine ca_iload h dX13_ranked_254 rfl ?_
                            refine oa_ialdN h (j := a) (ch_kdn _) hv21 rfl (by omega) (by omega) dX13_ranked_256 ?_
                            refine ca_icmp_le (tgt := 264) h dX13_ranked_257 (by decide) (fun c_257 => ?_) (fun c_257 => ?_)
                            ·
                              refine ca_iinc h dX13_ranked_264 rfl ik_1 rfl ?_
                              rw [show nI (b + 1) + 1 = nI ((b + 1) + 1) from nI_1 _]
                              refine ca_goto (tgt := 238) h dX13_ranked_267 (by decide) ?_
                              refine ca_pick [1, 2, 3, 4, 5, 6, 0] rfl ?_
                              exact ih_238 (b + 1) (by omega) a (o_fx_old hX c_257)
                            ·
                              refine ca_iload h dX13_ranked_260 rfl ?_
                              refine ca_istore h dX13_ranked_262 rfl ?_
                              refine ca_iinc h dX13_ranked_264 rfl ik_1 rfl ?_
                              rw [show nI (b + 1) + 1 = nI ((b + 1) + 1) from nI_1 _]
                              refine ca_goto (tgt := 238) h dX13_ranked_267 (by decide) ?_
                              refine ca_pick [2, 3, 4, 5, 6, 1, 0] rfl ?_
                              exact ih_238 (b + 1) (by omega) (b + 1) (o_fx_new hX c_257)
                      refine ca_pick [2, 3, 4, 5, 6, 1, 0] rfl ?_
                      exact loop_238 (k_cc n - 1) 0 (by omega) 0 o_fx_1
                refine ca_pick [2, 7, 8, 1, 0] rfl ?_
                exact loop_225 t 0 (by omega) μ hN hf hM (fun j hj => absurd hj (Nat.not_lt_zero _))
              · exact absurd c_82 (by rw [hn]; exact Int32.lt_irrefl)
            | succ jj ih_76 =>
              intro b hn μ hN hf hM
              have hn1 : b < k_cc n := by omega
              refine ca_iload h dX13_ranked_76 rfl ?_
              refine ca_aload_nr h dX13_ranked_78 rfl ?_
              refine gi_X13_57 h (hN.st.1 _ _ _ (by show _ ∧ _; omega)) dX13_ranked_79 ?_
              refine ca_top (y := nI (k_cc n)) hN.cells ?_
              refine ca_icmp_ge (tgt := 216) h dX13_ranked_82 (by decide) (fun c_82 => ?_) (fun c_82 => ?_)
              · exact absurd (nI_lt hn1 (by omega)) c_82
              ·
                refine ca_aload h dX13_ranked_85 rfl ?_
                refine ca_iload h dX13_ranked_87 rfl ?_
                refine ca_iconst h dX13_ranked_89 ik_0 ?_
                refine oa_iastN h (j := b) (ch_kdn _) hw.1 rfl (by omega) (by omega) dX13_ranked_90 ?_
                have hM : o_mg0 (o_g n (k_em n m) m) b (ch_st μ 21 (k_cc n + 40) 0 b 0 21 (k_cc n + 40) 0) := fun c hc => by rw [ch_st_at, if_neg (by omega)]; exact hM c hc
                have hMb : ch_st μ 21 (k_cc n + 40) 0 b 0 21 (k_cc n + 40) 0 b = 0 := by rw [ch_st_at, if_pos ⟨rfl, rfl, rfl, rfl⟩]
                have hN := o_NW_st (k := 21) (kd := k_cc n + 40) (i := 0) (j := b) (v := 0) hN (by decide) (by decide)
                have hf := o_fr_sst (k := 21) (kd := k_cc n + 40) (i := 0) (j := b) (v := 0) hf (Or.inr (Or.inl rfl))
                obtain ⟨μ, eμ⟩ : ∃ z, z = ch_st μ 21 (k_cc n + 40) 0 b 0 := ⟨_, rfl⟩
                rw [← eμ] at hN hf hM hMb ⊢
                refine ca_aload_nr h dX13_ranked_91 rfl ?_
                refine gr_X13_35 h (hN.st.1 _ _ _ (by show _ ∧ _; omega)) (hN.st.2.1 _ _ _ _ _ (by show _ ∧ _; omega) rfl) dX13_ranked_92 ?_
                show ch_W X E _ _ _ _ _ _ _ (.ref (S.1 16 24 1) :: _)
                refine ca_iload_n h dX13_ranked_95 rfl ?_
                refine oa_aald h (j := s) rfl (by decide) (hN.st.1 _ _ _ (by show _ ∧ _; omega)) rfl (by omega) (by decide) (hN.st.2.1 _ _ _ _ _ (by show _ ∧ _; omega) (o_rt241 (by omega))) dX13_ranked_96 ?_
                show ch_W X E _ _ _ _ _ _ _ (.ref (S.1 16 48 (8 + s)) :: _)
                refine ca_iload h dX13_ranked_97 rfl ?_
                refine oa_iald h (j := b) rfl (hN.st.1 _ _ _ (by show _ ∧ _; omega)) rfl (by omega) (by decide) dX13_ranked_99 ?_
                refine ca_top (y := (if n 2 (8 * s + b) 0 = 0 then -1 else n 2 (8 * s + b) 1)) (hN.hy (by omega) (by omega)) ?_
                refine ca_if_lt (tgt := 210) h dX13_ranked_100 (by decide) (fun c_100 => ?_) (fun c_100 => ?_)
                ·
                  have hx : n 2 (8 * s + b) 0 = 0 := Classical.byContradiction (fun z => hKG.2 (8 * s + b) (by omega) (by rw [if_neg z] at c_100; exact c_100))
                  refine ca_iinc h dX13_ranked_210 rfl ik_1 rfl ?_
                  rw [show nI b + 1 = nI (b + 1) from nI_1 _]
                  refine ca_goto (tgt := 76) h dX13_ranked_213 (by decide) ?_
                  refine ca_pick [1, 2, 3, 4, 5, 6, 7, 0] rfl ?_
                  have hz : ¬ 0 < (o_g n (k_em n m) m) b := by rw [o_gE (by omega) (by omega) h5, if_pos hx]; exact Int32.lt_irrefl
                  have hL : (k_rkL n (k_em n m) m b (nw (nw q 17 0 0 0) 17 0 1 (k_em n m))) 17 0 0 = (k_rkL n (k_em n m) m (b + 1) (nw (nw q 17 0 0 0) 17 0 1 (k_em n m))) 17 0 0 := by rw [k_rkL_s, if_neg hz]
                  rw [hL]
                  exact ih_76 (b + 1) (by omega) _ hN hf (o_mg0_s hM (fun c hc => rfl) (by rw [if_neg hz]; exact hMb))
                ·
                  have hx : ¬ n 2 (8 * s + b) 0 = 0 := fun z => c_100 (by rw [if_pos z]; decide)
                  obtain ⟨Nb, idb, eb5, hNb8, hvb, hrb, -⟩ := hN.rp hm ht (show b < 8 by omega)
                  refine ca_aload_nr h dX13_ranked_103 rfl ?_
                  refine gr_X13_134 h (hN.st.1 _ _ _ (by show _ ∧ _; omega)) (hN.st.2.1 _ _ _ _ _ (by show _ ∧ _; omega) rfl) dX13_ranked_104 ?_
                  show ch_W X E _ _ _ _ _ _ _ (.ref (S.1 16 24 (8 + m)) :: _)
                  refine ca_iload h dX13_ranked_107 rfl ?_
                  refine oa_aald h (j := b) rfl (by decide) (hN.st.1 _ _ _ (by show _ ∧ _; omega)) rfl (by omega) (by decide) hrb dX13_ranked_109 ?_
                  show ch_W X E _ _ _ _ _ _ _ (.ref (S.1 18 (Nb + 40) idb) :: _)
                  refine oa_alen h (ch_kdn _) hvb eb5.symm dX13_ranked_110 ?_
                  refine ca_aload_nr h dX13_ranked_111 rfl ?_
                  refine gi_X13_13 h (hN.st.1 _ _ _ (by show _ ∧ _; omega)) dX13_ranked_112 ?_
                  refine ca_top (y := n 0 0 5) (hN.hd (by decide)) ?_
                  refine ca_icmp_lt (tgt := 210) h dX13_ranked_115 (by decide) (fun c_115 => ?_) (fun c_115 => ?_)
                  ·
                    refine ca_iinc h dX13_ranked_210 rfl ik_1 rfl ?_
                    rw [show nI b + 1 = nI (b + 1) from nI_1 _]
                    refine ca_goto (tgt := 76) h dX13_ranked_213 (by decide) ?_
                    refine ca_pick [1, 2, 3, 4, 5, 6, 7, 0] rfl ?_
                    have hz : ¬ 0 < (o_g n (k_em n m) m) b := by rw [o_gE (by omega) (by omega) h5, if_neg hx, if_pos c_115]; exact Int32.lt_irrefl
                    have hL : (k_rkL n (k_em n m) m b (nw (nw q 17 0 0 0) 17 0 1 (k_em n m))) 17 0 0 = (k_rkL n (k_em n m) m (b + 1) (nw (nw q 17 0 0 0) 17 0 1 (k_em n m))) 17 0 0 := by rw [k_rkL_s, if_neg hz]
                    rw [hL]
                    exact ih_76 (b + 1) (by omega) _ hN hf (o_mg0_s hM (fun c hc => rfl) (by rw [if_neg hz]; exact hMb))
                  ·
                    have hb0 : 0 < n 5 m b := Int32.lt_of_lt_of_le hK0.2 (Int32.not_lt.mp c_115)
                    refine ca_aload_nr h dX13_ranked_118 rfl ?_
                    refine ca_iload h dX13_ranked_119 rfl ?_
                    refine oa_n h hG (host := "CellHandoverLaw") (List.mem_of_getElem? (i := 10) rfl) kw_743 ks_24 kw_25 kw_744 (n := 1) ⟨by decide, by decide, by decide +kernel⟩ (c_X12_average hN (c := b) hm ht (by omega) hb0) (ci := 12) rfl rfl rfl (hN.st.1 _ _ _ (by show _ ∧ _; omega)) rfl rfl rfl rfl ⟨by omega, by omega⟩ rfl dX13_ranked_121 ?_
                    refine ca_aload_nr h dX13_ranked_124 rfl ?_
                    refine gr_X13_30 h (hN.st.1 _ _ _ (by show _ ∧ _; omega)) (hN.st.2.1 _ _ _ _ _ (by show _ ∧ _; omega) rfl) dX13_ranked_125 ?_
                    show ch_W X E _ _ _ _ _ _ _ (.ref (S.1 16 24 0) :: _)
                    refine ca_iload h dX13_ranked_128 rfl ?_
                    refine oa_aald h (j := b) rfl (by decide) (hN.st.1 _ _ _ (by show _ ∧ _; omega)) rfl (by omega) (by decide) (hN.st.2.1 _ _ _ _ _ (by show _ ∧ _; omega) (o_rt240 (by omega))) dX13_ranked_130 ?_
                    show ch_W X E _ _ _ _ _ _ _ (.ref (S.1 16 48 b) :: _)
                    refine ca_bipush h dX13_ranked_131 bk_6 ?_
                    refine oa_iald h (j := 6) rfl (hN.st.1 _ _ _ (by show _ ∧ _; omega)) rfl (by omega) (by decide) dX13_ranked_133 ?_
                    refine ca_top (y := n 1 b 6) (hN.cf (by omega) (by decide)) ?_
                    refine ca_icmp_ge (tgt := 140) h dX13_ranked_134 (by decide) (fun c_134 => ?_) (fun c_134 => ?_)
                    ·
                      refine ca_aload_nr h dX13_ranked_140 rfl ?_
                      refine ca_iload h dX13_ranked_141 rfl ?_
                      refine oa_n h hG (host := "CellHandoverLaw") (List.mem_of_getElem? (i := 10) rfl) kw_743 ks_24 kw_25 kw_744 (n := 1) ⟨by decide, by decide, by decide +kernel⟩ (c_X12_average hN (c := b) hm ht (by omega) hb0) (ci := 12) rfl rfl rfl (hN.st.1 _ _ _ (by show _ ∧ _; omega)) rfl rfl rfl rfl ⟨by omega, by omega⟩ rfl dX13_ranked_143 ?_
                      refine ca_aload_nr h dX13_ranked_146 rfl ?_
                      refine ca_iload_n h dX13_ranked_147 rfl ?_
                      refine oa_n h hG (host := "CellHandoverLaw") (List.mem_of_getElem? (i := 10) rfl) kw_743 ks_24 kw_25 kw_744 (n := 1) ⟨by decide, by decide, by decide +kernel⟩ (c_X12_average hN (c := s) hm ht (by omega) hs0) (ci := 12) rfl rfl rfl (hN.st.1 _ _ _ (by show _ ∧ _; omega)) rfl rfl rfl rfl ⟨by omega, by omega⟩ rfl dX13_ranked_148 ?_
                      refine ca_isub h dX13_ranked_151 ?_
                      refine ca_istore h dX13_ranked_152 rfl ?_
                      refine ca_iload h dX13_ranked_154 rfl ?_
                      refine ca_if_ne (tgt := 173) h dX13_ranked_156 (by decide) (fun c_156 => ?_) (fun c_156 => ?_)
                      ·
                        refine ca_iload h dX13_ranked_173 rfl ?_
                        obtain ⟨v8, hv8⟩ : ∃ v8, v8 = k_avg n m (nI b) - k_avg n m (nI s) := ⟨_, rfl⟩
                        rw [← hv8]
                        refine ca_if_le (tgt := 210) h dX13_ranked_175 (by decide) (fun c_175 => ?_) (fun c_175 => ?_)
                        ·
                          refine ca_iinc h dX13_ranked_210 rfl ik_1 rfl ?_
                          rw [show nI b + 1 = nI (b + 1) from nI_1 _]
                          refine ca_goto (tgt := 76) h dX13_ranked_213 (by decide) ?_
                          refine ca_pick [2, 3, 4, 5, 6, 7, 8, 0] rfl ?_
                          have hz : ¬ 0 < (o_g n (k_em n m) m) b := by rw [o_gE (by omega) (by omega) h5, if_neg hx, if_neg c_115, if_neg (fun z => c_156 z.1), if_neg (Int32.not_lt.mpr (Int32.not_lt.mp c_134)), if_neg c_156, ← hv8]; exact c_175
                          have hL : (k_rkL n (k_em n m) m b (nw (nw q 17 0 0 0) 17 0 1 (k_em n m))) 17 0 0 = (k_rkL n (k_em n m) m (b + 1) (nw (nw q 17 0 0 0) 17 0 1 (k_em n m))) 17 0 0 := by rw [k_rkL_s, if_neg hz]
                          rw [hL]
                          exact ih_76 (b + 1) (by omega) _ hN hf (o_mg0_s hM (fun c hc => rfl) (by rw [if_neg hz]; exact hMb))
                        ·
                          refine ca_iload h dX13_ranked_178 rfl ?_
                          refine ca_if_ne (tgt := 200) h dX13_ranked_180 (by decide) (fun c_180 => ?_) (fun c_180 => ?_)
                          ·
                            refine ca_aload h dX13_ranked_200 rfl ?_
                            refine ca_iload h dX13_ranked_202 rfl ?_
                            refine ca_iload h dX13_ranked_204 rfl ?_
                            refine oa_iastN h (j := b) (ch_kdn _) hw.1 rfl (by omega) (by omega) dX13_ranked_206 ?_
                            have hN := o_NW_st (k := 21) (kd := k_cc n + 40) (i := 0) (j := b) (v := v8) hN (by decide) (by decide)
                            have hf := o_fr_sst (k := 21) (kd := k_cc n + 40) (i := 0) (j := b) (v := v8) hf (Or.inr (Or.inl rfl))
                            refine ca_iinc h dX13_ranked_207 rfl ik_1 rfl ?_
                            refine ca_iinc h dX13_ranked_210 rfl ik_1 rfl ?_
                            rw [show nI b + 1 = nI (b + 1) from nI_1 _]
                            refine ca_goto (tgt := 76) h dX13_ranked_213 (by decide) ?_
                            refine ca_pick [3, 4, 5, 6, 7, 8, 1, 0] rfl ?_
                            have hg : (o_g n (k_em n m) m) b = v8 := by
                              rw [o_gE (by omega) (by omega) h5, if_neg hx, if_neg c_115, if_neg (fun z => c_180 z.1), if_neg (Int32.not_lt.mpr (Int32.not_lt.mp c_134)), if_neg c_180, hv8]
                            have hL : (k_rkL n (k_em n m) m b (nw (nw q 17 0 0 0) 17 0 1 (k_em n m))) 17 0 0 + 1 = (k_rkL n (k_em n m) m (b + 1) (nw (nw q 17 0 0 0) 17 0 1 (k_em n m))) 17 0 0 := by
                              rw [k_rkL_s, if_pos (by rw [hg]; exact c_175)]
                              obtain ⟨t, C, hso⟩ := o_so_L (n := n) (em := k_em n m) (i := m) (q := (nw (nw q 17 0 0 0) 17 0 1 (k_em n m))) (by simp [nw_at]) b (by omega)
                              rw [(o_ins18 (show t < 8 by have := hso.1; omega) hso.2.1).1, hso.2.1, nI_1]
                            rw [hL]
                            refine ih_76 (b + 1) (by omega) _ hN hf (o_mg0_s hM (fun c hc => by rw [ch_st_at, if_neg (fun z => hc z.2.2.2)]) (by rw [ch_st_at, if_pos ⟨rfl, rfl, rfl, rfl⟩, hg, if_pos c_175]))
                          · exact absurd c_180 c_156
                      ·
                        have hem0 : k_em n m = 0 := c_156
                        refine ca_iload h dX13_ranked_159 rfl ?_
                        refine ca_aload_nr h dX13_ranked_161 rfl ?_
                        refine gr_X13_35 h (hN.st.1 _ _ _ (by show _ ∧ _; omega)) (hN.st.2.1 _ _ _ _ _ (by show _ ∧ _; omega) rfl) dX13_ranked_162 ?_
                        show ch_W X E _ _ _ _ _ _ _ (.ref (S.1 16 24 1) :: _)
                        refine ca_iload_n h dX13_ranked_165 rfl ?_
                        refine oa_aald h (j := s) rfl (by decide) (hN.st.1 _ _ _ (by show _ ∧ _; omega)) rfl (by omega) (by decide) (hN.st.2.1 _ _ _ _ _ (by show _ ∧ _; omega) (o_rt241 (by omega))) dX13_ranked_166 ?_
                        show ch_W X E _ _ _ _ _ _ _ (.ref (S.1 16 48 (8 + s)) :: _)
                        refine ca_iload h dX13_ranked_167 rfl ?_
                        refine oa_iald h (j := b) rfl (hN.st.1 _ _ _ (by show _ ∧ _; omega)) rfl (by omega) (by decide) dX13_ranked_169 ?_
                        refine ca_top (y := n 2 (8 * s + b) 1) ((hN.hy (by omega) (by omega)).trans (if_neg hx)) ?_
                        refine ca_isub h dX13_ranked_170 ?_
                        refine ca_istore h dX13_ranked_171 rfl ?_
                        refine ca_iload h dX13_ranked_173 rfl ?_
                        obtain ⟨v8, hv8⟩ : ∃ v8, v8 = k_avg n m (nI b) - k_avg n m (nI s) - n 2 (8 * s + b) 1 := ⟨_, rfl⟩
                        rw [← hv8]
                        refine ca_if_le (tgt := 210) h dX13_ranked_175 (by decide) (fun c_175 => ?_) (fun c_175 => ?_)
                        ·
                          refine ca_iinc h dX13_ranked_210 rfl ik_1 rfl ?_
                          rw [show nI b + 1 = nI (b + 1) from nI_1 _]
                          refine ca_goto (tgt := 76) h dX13_ranked_213 (by decide) ?_
                          refine ca_pick [2, 3, 4, 5, 6, 7, 8, 0] rfl ?_
                          have hz : ¬ 0 < (o_g n (k_em n m) m) b := by rw [o_gE (by omega) (by omega) h5, if_neg hx, if_neg c_115]; by_cases z : k_em n m = 0 ∧ ¬ n 6 m b < n 0 0 3; (· rw [if_pos z]; exact Int32.lt_irrefl); (· rw [if_neg z, if_neg (Int32.not_lt.mpr (Int32.not_lt.mp c_134)), if_pos hem0, ← hv8]; exact c_175)
                          have hL : (k_rkL n (k_em n m) m b (nw (nw q 17 0 0 0) 17 0 1 (k_em n m))) 17 0 0 = (k_rkL n (k_em n m) m (b + 1) (nw (nw q 17 0 0 0) 17 0 1 (k_em n m))) 17 0 0 := by rw [k_rkL_s, if_neg hz]
                          rw [hL]
                          exact ih_76 (b + 1) (by omega) _ hN hf (o_mg0_s hM (fun c hc => rfl) (by rw [if_neg hz]; exact hMb))
                        ·
                          refine ca_iload h dX13_ranked_178 rfl ?_
                          refine ca_if_ne (tgt := 200) h dX13_ranked_180 (by decide) (fun c_180 => ?_) (fun c_180 => ?_)
                          · exact absurd hem0 c_180
                          ·
                            have hem0 : k_em n m = 0 := c_180
                            refine ca_aload_nr h dX13_ranked_183 rfl ?_
                            refine gr_X13_128 h (hN.st.1 _ _ _ (by show _ ∧ _; omega)) (hN.st.2.1 _ _ _ _ _ (by show _ ∧ _; omega) rfl) dX13_ranked_184 ?_
                            show ch_W X E _ _ _ _ _ _ _ (.ref (S.1 16 48 (40 + m)) :: _)
                            refine ca_iload h dX13_ranked_187 rfl ?_
                            refine oa_iald h (j := b) rfl (hN.st.1 _ _ _ (by show _ ∧ _; omega)) rfl (by omega) (by decide) dX13_ranked_189 ?_
                            refine ca_top (y := n 6 m b) (hN.br hm ht (by omega)) ?_
                            refine ca_aload_nr h dX13_ranked_190 rfl ?_
                            refine gi_X13_63 h (hN.st.1 _ _ _ (by show _ ∧ _; omega)) dX13_ranked_191 ?_
                            refine ca_top (y := n 0 0 3) hN.clk ?_
                            refine ca_icmp_lt (tgt := 200) h dX13_ranked_194 (by decide) (fun c_194 => ?_) (fun c_194 => ?_)
                            ·
                              refine ca_aload h dX13_ranked_200 rfl ?_
                              refine ca_iload h dX13_ranked_202 rfl ?_
                              refine ca_iload h dX13_ranked_204 rfl ?_
                              refine oa_iastN h (j := b) (ch_kdn _) hw.1 rfl (by omega) (by omega) dX13_ranked_206 ?_
                              have hN := o_NW_st (k := 21) (kd := k_cc n + 40) (i := 0) (j := b) (v := v8) hN (by decide) (by decide)
                              have hf := o_fr_sst (k := 21) (kd := k_cc n + 40) (i := 0) (j := b) (v := v8) hf (Or.inr (Or.inl rfl))
                              refine ca_iinc h dX13_ranked_207 rfl ik_1 rfl ?_
                              refine ca_iinc h dX13_ranked_210 rfl ik_1 rfl ?_
                              rw [show nI b + 1 = nI (b + 1) from nI_1 _]
                              refine ca_goto (tgt := 76) h dX13_ranked_213 (by decide) ?_
                              refine ca_pick [3, 4, 5, 6, 7, 8, 1, 0] rfl ?_
                              have hg : (o_g n (k_em n m) m) b = v8 := by
                                rw [o_gE (by omega) (by omega) h5, if_neg hx, if_neg c_115, if_neg (fun z => z.2 c_194), if_neg (Int32.not_lt.mpr (Int32.not_lt.mp c_134)), if_pos hem0, hv8]
                              have hL : (k_rkL n (k_em n m) m b (nw (nw q 17 0 0 0) 17 0 1 (k_em n m))) 17 0 0 + 1 = (k_rkL n (k_em n m) m (b + 1) (nw (nw q 17 0 0 0) 17 0 1 (k_em n m))) 17 0 0 := by
                                rw [k_rkL_s, if_pos (by rw [hg]; exact c_175)]
                                obtain ⟨t, C, hso⟩ := o_so_L (n := n) (em := k_em n m) (i := m) (q := (nw (nw q 17 0 0 0) 17 0 1 (k_em n m))) (by simp [nw_at]) b (by omega)
                                rw [(o_ins18 (show t < 8 by have := hso.1; omega) hso.2.1).1, hso.2.1, nI_1]
                              rw [hL]
                              refine ih_76 (b + 1) (by omega) _ hN hf (o_mg0_s hM (fun c hc => by rw [ch_st_at, if_neg (fun z => hc z.2.2.2)]) (by rw [ch_st_at, if_pos ⟨rfl, rfl, rfl, rfl⟩, hg, if_pos c_175]))
                            ·
                              refine ca_goto (tgt := 210) h dX13_ranked_197 (by decide) ?_
                              refine ca_iinc h dX13_ranked_210 rfl ik_1 rfl ?_
                              rw [show nI b + 1 = nI (b + 1) from nI_1 _]
                              refine ca_goto (tgt := 76) h dX13_ranked_213 (by decide) ?_
                              refine ca_pick [2, 3, 4, 5, 6, 7, 8, 0] rfl ?_
                              have hz : ¬ 0 < (o_g n (k_em n m) m) b := by rw [o_gE (by omega) (by omega) h5, if_neg hx, if_neg c_115, if_pos ⟨hem0, c_194⟩]; exact Int32.lt_irrefl
                              have hL : (k_rkL n (k_em n m) m b (nw (nw q 17 0 0 0) 17 0 1 (k_em n m))) 17 0 0 = (k_rkL n (k_em n m) m (b + 1) (nw (nw q 17 0 0 0) 17 0 1 (k_em n m))) 17 0 0 := by rw [k_rkL_s, if_neg hz]
                              rw [hL]
                              exact ih_76 (b + 1) (by omega) _ hN hf (o_mg0_s hM (fun c hc => rfl) (by rw [if_neg hz]; exact hMb))
                    ·
                      refine ca_goto (tgt := 210) h dX13_ranked_137 (by decide) ?_
                      refine ca_iinc h dX13_ranked_210 rfl ik_1 rfl ?_
                      rw [show nI b + 1 = nI (b + 1) from nI_1 _]
                      refine ca_goto (tgt := 76) h dX13_ranked_213 (by decide) ?_
                      refine ca_pick [1, 2, 3, 4, 5, 6, 7, 0] rfl ?_
                      have hz : ¬ 0 < (o_g n (k_em n m) m) b := by rw [o_gE (by omega) (by omega) h5, if_neg hx, if_neg c_115]; by_cases z : k_em n m = 0 ∧ ¬ n 6 m b < n 0 0 3; (· rw [if_pos z]; exact Int32.lt_irrefl); (· rw [if_neg z, if_pos c_134]; exact Int32.lt_irrefl)
                      have hL : (k_rkL n (k_em n m) m b (nw (nw q 17 0 0 0) 17 0 1 (k_em n m))) 17 0 0 = (k_rkL n (k_em n m) m (b + 1) (nw (nw q 17 0 0 0) 17 0 1 (k_em n m))) 17 0 0 := by rw [k_rkL_s, if_neg hz]
                      rw [hL]
                      exact ih_76 (b + 1) (by omega) _ hN hf (o_mg0_s hM (fun c hc => rfl) (by rw [if_neg hz]; exact hMb))
          refine ca_pick [4, 5, 6, 7, 3, 2, 1, 0] rfl ?_
          have h76 := loop_76 (k_cc n) 0 (by omega) μ hN hf (fun c hc => absurd hc (Nat.not_lt_zero _))
          rw [show (k_rkL n (k_em n m) m 0 (nw (nw q 17 0 0 0) 17 0 1 (k_em n m))) 17 0 0 = 0 by show (nw (nw q 17 0 0 0) 17 0 1 (k_em n m)) 17 0 0 = 0; simp [nw_at]] at h76
          exact h76
        refine ca_aload_nr h dX13_ranked_43 rfl ?_
        refine gr_X13_30 h (hN.st.1 _ _ _ (by show _ ∧ _; omega)) (hN.st.2.1 _ _ _ _ _ (by show _ ∧ _; omega) rfl) dX13_ranked_44 ?_
        show ch_W X E _ _ _ _ _ _ _ (.ref (S.1 16 24 0) :: _)
        refine ca_iload_n h dX13_ranked_47 rfl ?_
        refine oa_aald h (j := s) rfl (by decide) (hN.st.1 _ _ _ (by show _ ∧ _; omega)) rfl (by omega) (by decide) (hN.st.2.1 _ _ _ _ _ (by show _ ∧ _; omega) (o_rt240 (by omega))) dX13_ranked_48 ?_
        show ch_W X E _ _ _ _ _ _ _ (.ref (S.1 16 48 s) :: _)
        refine ca_bipush h dX13_ranked_49 bk_7 ?_
        refine oa_iald h (j := 7) rfl (hN.st.1 _ _ _ (by show _ ∧ _; omega)) rfl (by omega) (by decide) dX13_ranked_51 ?_
        refine ca_top (y := n 1 s 7) (hN.cf (by omega) (by decide)) ?_
        refine ca_icmp_ge (tgt := 59) h dX13_ranked_52 (by decide) (fun c_52 => ?_) (fun c_52 => ?_)
        ·
          have hem : (0 : Int32) = k_em n m := by unfold k_em; rw [h5, k_cel (by omega), decide_eq_false (Int32.not_lt.mpr (Int32.not_lt.mp c_52))]; rfl
          refine ca_iconst h dX13_ranked_59 ik_0 ?_
          refine ca_pick [2, 3, 1, 0] rfl ?_
          exact K_60 _ hem
        ·
          have hem : (1 : Int32) = k_em n m := by unfold k_em; rw [h5, k_cel (by omega), decide_eq_true c_52]; rfl
          refine ca_iconst h dX13_ranked_55 ik_1 ?_
          refine ca_goto (tgt := 60) h dX13_ranked_56 (by decide) ?_
          refine ca_pick [2, 3, 1, 0] rfl ?_
          exact K_60 _ hem
      ·
        have hs0 : n 5 m s = 0 := c_31
        refine ca_iconst h dX13_ranked_34 ik_0 ?_
        refine oa_newI 22 40 0 (n := 0) h hG (ch_bs16 hN.st) rfl kw_67 rfl (by decide) ⟨by omega, by omega⟩ dX13_ranked_35 ?_
        obtain ⟨S0, rfl⟩ : ∃ z, z = S := ⟨_, rfl⟩
        obtain ⟨μ0, rfl⟩ : ∃ z, z = μ := ⟨_, rfl⟩
        intro S μ hw
        refine ca_widen (k := 2) (n := 16) (by omega) (by omega) ?_
        refine oa_aretI h hR dX13_ranked_37 ?_
        refine ⟨0, by decide, rfl, o_fr_nws hw (Or.inr (Or.inr rfl)), ⟨w, o_NW_nw hN hw (by decide) (by decide)⟩, hw.1, ?_, fun j hj => absurd hj (Nat.not_lt_zero _)⟩
        unfold k_rank
        rw [h5, if_pos (by rcases r_avg hN.rn hm ht (show s < 8 by omega) with z | z; (· exact z.2); (· exact absurd hs0 z.2.1))]
        simp [nw_at]; rfl
