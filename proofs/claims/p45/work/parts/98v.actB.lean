set_option maxHeartbeats 800000 in
theorem c_actB {X : ch_X} {E : ch_E} {n : ch_N} {B j : Nat} {S S0 : ch_S} {μ μ0 : ch_M} (h : ch_H X E RL cL_act 11) (hG : ch_G X 7 11 29) (hR : ch_R X E (some FieldType.int) 11 29 (o_PA n B j S μ)) {w : Nat → Int32} (hs : ch_Std E S) (e0 : μ 0 = n) (hN : o_NW n w S μ) (hJ : s_J B n) (hB : B + 2 < 2 ^ 31) (hj : j < 12) (hnx : μ 15 14 0 1 = nI j) {v u : Int32} {W m : Nat} (hm : m < k_mc n) (h0 : ¬ n 3 m 4 = 0) : ch_W X E 11 S μ 0 0 211 [(0, .ref (S.1 15 11 0)), (1, .ref (S.1 16 22 0)), (2, .int v), (3, .int (nI W)), (4, .int u), (5, .int (nI m)), (6, .ref (S.1 16 23 m))] [] := by
  have hm12 := hN.m12
  have hc8 := hN.c8
  have hm12' : m < 12 := by omega
  have hd9 : k_rg 1 500 (nI (a_md (u >>> 4) 30 + 1)) := r_dur (a_md_lt (by decide))
  refine ca_iconst h dL_act_211 ik_1 ?_
  refine ca_iload h dL_act_212 rfl ?_
  refine ca_iconst h dL_act_214 ik_4 ?_
  refine ca_ishr h dL_act_215 ?_
  refine ca_bipush h dL_act_216 bk_30 ?_
  refine oa_s h hG ms_L_27 (c_L_most (by decide) (by decide)) rfl rfl rfl rfl ⟨by omega, by omega⟩ rfl dL_act_218 ?_
  refine ca_iadd h dL_act_221 ?_
  refine ca_top (y := nI (a_md (u >>> 4) 30 + 1)) (by rw [Int32.add_comm]; exact nI_1 _) ?_
  refine ca_istore h dL_act_222 rfl ?_
  refine ca_aload_nr h dL_act_224 rfl ?_
  refine ca_iload h dL_act_225 rfl ?_
  refine ca_iload h dL_act_227 rfl ?_
  refine oa_N h hG (host := "CellHandoverLaw") (List.mem_of_getElem? (i := 14) rfl) kw_1110 ks_38 kw_18 kw_1111 (n := 2) ⟨by decide, by decide, by decide +kernel⟩ (c_X13_callB hN hm h0) (ci := 13) rfl rfl rfl (hN.st.1 _ _ _ (by show _ ∧ _; omega)) rfl rfl rfl rfl ⟨by omega, by omega⟩ rfl dL_act_229 ?_
  intro v S1 μ1 hp
  obtain ⟨rfl, rfl, rfl⟩ := hp
  show ch_W X E 11 _ _ _ _ _ _ (.int (-2) :: [])
  refine ca_istore h dL_act_232 rfl ?_
  refine ca_aload_nr h dL_act_234 rfl ?_
  refine ca_iload h dL_act_235 rfl ?_
  refine ca_iload h dL_act_237 rfl ?_
  refine oa_v h hG ml_L_230 (c_X11_callB hs (by rw [e0]; exact hN.wf) (by rw [e0]; exact hm) hd9 (by rw [e0]; exact h0)) (ci := 11) rfl rfl rfl (hs.1 _ _ _ ⟨rfl, rfl⟩) rfl rfl rfl rfl ⟨by omega, by omega⟩ rfl dL_act_239 ?_
  refine ca_iload h dL_act_242 rfl ?_
  refine ca_icmp_eq (tgt := 251) h dL_act_244 (by decide) (fun c_244 => ?_) (fun c_244 => ?_)
  ·
    refine ca_iload h dL_act_251 rfl ?_
    refine ca_bipush h dL_act_253 bk_m2 ?_
    refine ca_icmp_eq (tgt := 265) h dL_act_255 (by decide) (fun c_255 => ?_) (fun c_255 => ?_)
    ·
      refine ca_iconst h dL_act_265 ik_0 ?_
      refine ca_goto (tgt := 270) h dL_act_266 (by decide) ?_
      refine ca_widen (k := 11) (n := 29) (by omega) (by omega) ?_
      refine ca_ireturn h hR rfl dL_act_270 ?_
      exact o_PA_0 o_fa_0 hN hJ rfl
    · exact absurd rfl c_255
  · exact absurd rfl c_244
set_option maxHeartbeats 800000 in
theorem c_actU {X : ch_X} {E : ch_E} {n : ch_N} {B j : Nat} {S S0 : ch_S} {μ μ0 : ch_M} (h : ch_H X E RL cL_act 11) (hG : ch_G X 7 11 29) (hR : ch_R X E (some FieldType.int) 11 29 (o_PA n B j S μ)) {w : Nat → Int32} (hs : ch_Std E S) (e0 : μ 0 = n) (hN : o_NW n w S μ) (hJ : s_J B n) (hB : B + 2 < 2 ^ 31) (hj : j < 12) (hnx : μ 15 14 0 1 = nI j) {v u : Int32} {W m : Nat} (hm : m < k_mc n) (h0 : n 3 m 4 = 0) (hcv : k_cov n (n 3 m 0) (n 3 m 1) = -1) : ch_W X E 11 S μ 0 0 211 [(0, .ref (S.1 15 11 0)), (1, .ref (S.1 16 22 0)), (2, .int v), (3, .int (nI W)), (4, .int u), (5, .int (nI m)), (6, .ref (S.1 16 23 m))] [] := by
  have hm12 := hN.m12
  have hc8 := hN.c8
  have hm12' : m < 12 := by omega
  have hd9 : k_rg 1 500 (nI (a_md (u >>> 4) 30 + 1)) := r_dur (a_md_lt (by decide))
  refine ca_iconst h dL_act_211 ik_1 ?_
  refine ca_iload h dL_act_212 rfl ?_
  refine ca_iconst h dL_act_214 ik_4 ?_
  refine ca_ishr h dL_act_215 ?_
  refine ca_bipush h dL_act_216 bk_30 ?_
  refine oa_s h hG ms_L_27 (c_L_most (by decide) (by decide)) rfl rfl rfl rfl ⟨by omega, by omega⟩ rfl dL_act_218 ?_
  refine ca_iadd h dL_act_221 ?_
  refine ca_top (y := nI (a_md (u >>> 4) 30 + 1)) (by rw [Int32.add_comm]; exact nI_1 _) ?_
  refine ca_istore h dL_act_222 rfl ?_
  refine ca_aload_nr h dL_act_224 rfl ?_
  refine ca_iload h dL_act_225 rfl ?_
  refine ca_iload h dL_act_227 rfl ?_
  refine oa_N h hG (host := "CellHandoverLaw") (List.mem_of_getElem? (i := 14) rfl) kw_1110 ks_38 kw_18 kw_1111 (n := 2) ⟨by decide, by decide, by decide +kernel⟩ (c_X13_callU hN hm h0 hcv) (ci := 13) rfl rfl rfl (hN.st.1 _ _ _ (by show _ ∧ _; omega)) rfl rfl rfl rfl ⟨by omega, by omega⟩ rfl dL_act_229 ?_
  intro v S1 μ1 hp
  obtain ⟨rfl, rfl, rfl⟩ := hp
  show ch_W X E 11 _ _ _ _ _ _ (.int (-4) :: [])
  refine ca_istore h dL_act_232 rfl ?_
  refine ca_aload_nr h dL_act_234 rfl ?_
  refine ca_iload h dL_act_235 rfl ?_
  refine ca_iload h dL_act_237 rfl ?_
  refine oa_v h hG ml_L_230 (c_X11_callU hs (by rw [e0]; exact hN.wf) (by rw [e0]; exact hm) hd9 (by rw [e0]; exact h0) (by rw [e0]; exact hcv)) (ci := 11) rfl rfl rfl (hs.1 _ _ _ ⟨rfl, rfl⟩) rfl rfl rfl rfl ⟨by omega, by omega⟩ rfl dL_act_239 ?_
  refine ca_iload h dL_act_242 rfl ?_
  refine ca_icmp_eq (tgt := 251) h dL_act_244 (by decide) (fun c_244 => ?_) (fun c_244 => ?_)
  ·
    refine ca_iload h dL_act_251 rfl ?_
    refine ca_bipush h dL_act_253 bk_m2 ?_
    refine ca_icmp_eq (tgt := 265) h dL_act_255 (by decide) (fun c_255 => ?_) (fun c_255 => ?_)
    · exact absurd c_255 (by decide)
    ·
      refine ca_iload h dL_act_258 rfl ?_
      refine ca_bipush h dL_act_260 bk_m4 ?_
      refine ca_icmp_ne (tgt := 269) h dL_act_262 (by decide) (fun c_262 => ?_) (fun c_262 => ?_)
      · exact absurd rfl c_262
      ·
        refine ca_iconst h dL_act_265 ik_0 ?_
        refine ca_goto (tgt := 270) h dL_act_266 (by decide) ?_
        refine ca_widen (k := 11) (n := 29) (by omega) (by omega) ?_
        refine ca_ireturn h hR rfl dL_act_270 ?_
        exact o_PA_0 o_fa_0 hN hJ rfl
  · exact absurd rfl c_244
set_option maxHeartbeats 800000 in
theorem c_actC {X : ch_X} {E : ch_E} {n : ch_N} {B j : Nat} {S S0 : ch_S} {μ μ0 : ch_M} (h : ch_H X E RL cL_act 11) (hG : ch_G X 7 11 29) (hR : ch_R X E (some FieldType.int) 11 29 (o_PA n B j S μ)) {w : Nat → Int32} (hs : ch_Std E S) (e0 : μ 0 = n) (hN : o_NW n w S μ) (hJ : s_J B n) (hB : B + 2 < 2 ^ 31) (hj : j < 12) (hnx : μ 15 14 0 1 = nI j) {v u : Int32} {W m : Nat} (hm : m < k_mc n) (h0 : n 3 m 4 = 0) {s : Nat} (hsc : s < k_cc n) (hcv : k_cov n (n 3 m 0) (n 3 m 1) = nI s) : ch_W X E 11 S μ 0 0 211 [(0, .ref (S.1 15 11 0)), (1, .ref (S.1 16 22 0)), (2, .int v), (3, .int (nI W)), (4, .int u), (5, .int (nI m)), (6, .ref (S.1 16 23 m))] [] := by
  have hm12 := hN.m12
  have hc8 := hN.c8
  have hm12' : m < 12 := by omega
  have hd9 : k_rg 1 500 (nI (a_md (u >>> 4) 30 + 1)) := r_dur (a_md_lt (by decide))
  refine ca_iconst h dL_act_211 ik_1 ?_
  refine ca_iload h dL_act_212 rfl ?_
  refine ca_iconst h dL_act_214 ik_4 ?_
  refine ca_ishr h dL_act_215 ?_
  refine ca_bipush h dL_act_216 bk_30 ?_
  refine oa_s h hG ms_L_27 (c_L_most (by decide) (by decide)) rfl rfl rfl rfl ⟨by omega, by omega⟩ rfl dL_act_218 ?_
  refine ca_iadd h dL_act_221 ?_
  refine ca_top (y := nI (a_md (u >>> 4) 30 + 1)) (by rw [Int32.add_comm]; exact nI_1 _) ?_
  refine ca_istore h dL_act_222 rfl ?_
  refine ca_aload_nr h dL_act_224 rfl ?_
  refine ca_iload h dL_act_225 rfl ?_
  refine ca_iload h dL_act_227 rfl ?_
  refine oa_N h hG (host := "CellHandoverLaw") (List.mem_of_getElem? (i := 14) rfl) kw_1110 ks_38 kw_18 kw_1111 (n := 2) ⟨by decide, by decide, by decide +kernel⟩ (c_X13_call hN hJ.2.1 hm hd9.1 h0 hsc hcv) (ci := 13) rfl rfl rfl (hN.st.1 _ _ _ (by show _ ∧ _; omega)) rfl rfl rfl rfl ⟨by omega, by omega⟩ rfl dL_act_229 ?_
  intro v S1 μ1 hp
  obtain ⟨rfl, hf, w1, hN1⟩ := hp
  have hs1 := o_fa_std (o_fa_fr hf) hs
  have e1 : μ1 0 = n := (hf.1 0 (by decide) (by decide) (by decide) (by decide) (by decide)).2.2.2.trans e0
  have hn1 : μ1 15 14 0 1 = nI j := by rw [(hf.1 15 (by decide) (by decide) (by decide) (by decide) (by decide)).2.2.2]; exact hnx
  rw [← (hf.1 15 (by decide) (by decide) (by decide) (by decide) (by decide)).1, ← hf.2.1.1]
  have hsS := hs
  replace hs := hs1
  show ch_W X E 11 _ _ _ _ _ _ (.int _ :: [])
  refine ca_istore h dL_act_232 rfl ?_
  refine ca_aload_nr h dL_act_234 rfl ?_
  refine ca_iload h dL_act_235 rfl ?_
  refine ca_iload h dL_act_237 rfl ?_
  refine oa_v h hG ml_L_230 (c_X11_call hs (by rw [e1]; exact hN.wf) (by rw [e1]; exact hm) hd9 (by rw [e1]; exact h0) (s := s) (by omega) (by rw [e1]; exact hcv) hj hn1) (ci := 11) rfl rfl rfl (hs.1 _ _ _ ⟨rfl, rfl⟩) rfl rfl rfl rfl ⟨by omega, by omega⟩ rfl dL_act_239 ?_
  rw [e1]
  refine ca_iload h dL_act_242 rfl ?_
  refine ca_icmp_eq (tgt := 251) h dL_act_244 (by decide) (fun c_244 => ?_) (fun c_244 => ?_)
  ·
    refine ca_iload h dL_act_251 rfl ?_
    refine ca_bipush h dL_act_253 bk_m2 ?_
    refine ca_icmp_eq (tgt := 265) h dL_act_255 (by decide) (fun c_255 => ?_) (fun c_255 => ?_)
    · exact absurd c_255 (k_su_v hc8 hsc).1
    ·
      refine ca_iload h dL_act_258 rfl ?_
      refine ca_bipush h dL_act_260 bk_m4 ?_
      refine ca_icmp_ne (tgt := 269) h dL_act_262 (by decide) (fun c_262 => ?_) (fun c_262 => ?_)
      ·
        refine ca_iconst h dL_act_269 ik_1 ?_
        refine ca_widen (k := 11) (n := 29) (by omega) (by omega) ?_
        refine ca_ireturn h hR rfl dL_act_270 ?_
        exact o_PA_1 (o_fa_fr hf) hN1 (s_J_su hJ m _ hsc) (k_cc_0 k_su_0) (by rw [k_su_0]) (by rw [hf.2.1.1]) hj
      · exact absurd c_262 (k_su_v hc8 hsc).2
  · exact absurd rfl c_244
