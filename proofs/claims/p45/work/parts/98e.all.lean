/-! THE LAW: the sum over all that a network shows -/
def a_t (n : ch_N) (k : Nat) (v : Int32) : Int32 := 31 * v + k_tot n (nI k)
def a_c (n : ch_N) (m c : Nat) (v : Int32) : Int32 := 31 * v + k_avg n m (nI c) + 100 * k_rep n m (nI c) + (if k_isb n m (nI c) (n 0 0 3) = true then 7 else 0)
def a_m0 (n : ch_N) (m : Nat) (v : Int32) : Int32 := 31 * v + n 3 m 0 + 1000 * n 3 m 1 + n 3 m 4 + 7 * n 3 m 5 + 11 * n 3 m 6 + 13 * n 3 m 8
def a_m (n : ch_N) (m : Nat) (v : Int32) : Int32 := kf (a_c n m) (k_cc n) (a_m0 n m v)
def a_b (n : ch_N) (a b : Nat) (v : Int32) : Int32 := 31 * v + (if n 2 (8 * a + b) 0 = 0 then (-1) else n 2 (8 * a + b) 1) + 5 * n 2 (8 * a + b) 2 + 3 * n 2 (8 * a + b) 3
def a_a (n : ch_N) (a : Nat) (v : Int32) : Int32 := kf (a_b n a) (k_cc n) (31 * v + n 1 a 8)
def a_1 (n : ch_N) : Int32 := kf (a_t n) 8 (n 0 0 3 + 31 * n 0 0 2)
def a_2 (n : ch_N) : Int32 := kf (a_m n) (k_mc n) (a_1 n)
def a_all (n : ch_N) : Int32 := kf (a_a n) (k_cc n) (a_2 n)
theorem a_mc {n : ch_N} {w : Nat → Int32} (h : r_N n w) : n 0 0 2 = nI (k_mc n) := (nI_cn h.2.1.2.1.2.2.2.2).symm
theorem o_NW.wf {n : ch_N} {w : Nat → Int32} {S : ch_S} {μ : ch_M} (h : o_NW n w S μ) : k_wf n := h.rn.2.2.2.2.2
theorem kf_cg {α : Type} {f g : Nat → α → α} : ∀ (N : Nat) (x : α), (∀ i y, i < N → f i y = g i y) → kf f N x = kf g N x
  | 0, _, _ => rfl
  | N + 1, x, h => by rw [kf_s, kf_s, kf_cg N x (fun i y hi => h i y (by omega)), h N _ (by omega)]
theorem a_all_ag {n m : ch_N} (h : k_ag n m) (hw : k_wf m) : a_all n = a_all m := by
  obtain ⟨h0, h1, h2, h3, h4, h5⟩ := h
  have ec : k_cc n = k_cc m := by unfold k_cc; rw [h0 0 (by decide)]
  have em : k_mc n = k_mc m := by unfold k_mc; rw [h0 2 (by decide)]
  have h12 : k_mc m ≤ 12 := hw.1
  have h8 : k_cc m ≤ 8 := hw.2.1
  have et : ∀ x, k_tot n x = k_tot m x := fun x => by unfold k_tot; rw [h5]
  have e1 : a_1 n = a_1 m := by
    unfold a_1
    rw [h0 3 (by decide), h0 2 (by decide)]
    exact kf_cg 8 _ (fun i y _ => by unfold a_t; rw [et])
  have e2 : a_2 n = a_2 m := by
    unfold a_2
    rw [em, e1]
    refine kf_cg _ _ (fun i y hi => ?_)
    have e0 : a_m0 n i y = a_m0 m i y := by
      unfold a_m0
      rw [h3 i 0 (by omega) (by decide), h3 i 1 (by omega) (by decide), h3 i 4 (by omega) (by decide), h3 i 5 (by omega) (by decide), h3 i 6 (by omega) (by decide), h3 i 8 (by omega) (by decide)]
    unfold a_m
    rw [ec, e0]
    refine kf_cg _ _ (fun c z hc => ?_)
    obtain ⟨g4, g5, g6⟩ := h4 i (by omega)
    unfold a_c k_avg k_rep k_sum k_isb
    rw [g4, g5, g6, h0 3 (by decide)]
  unfold a_all
  rw [ec, e2]
  refine kf_cg _ _ (fun a y ha => ?_)
  unfold a_a
  rw [ec, h1 a 8 (by omega) (by decide)]
  refine kf_cg _ _ (fun b z hb => ?_)
  unfold a_b
  rw [h2 (8 * a + b) 0 (by omega) (by decide), h2 (8 * a + b) 1 (by omega) (by decide), h2 (8 * a + b) 2 (by omega) (by decide), h2 (8 * a + b) 3 (by omega) (by decide)]
set_option maxHeartbeats 400000 in
theorem c_L_all {l : Launch} {E : ch_E} {S : ch_S} {μ : ch_M} (hs : ch_Std E S) (hv22 : S.2.1 16 22 0) (hw : k_wf (μ 0)) (hmc : μ 0 0 0 2 = nI (k_mc (μ 0))) (hcc : μ 16 22 0 0 = nI (k_cc (μ 0))) : ch_C E l yL_all cL_all 5 (some FieldType.int) 3 0 0 S μ [.ref (S.1 15 11 0), .ref (S.1 16 22 0)] (ch_F (some (.int (a_all (μ 0)))) S (μ)) := by
  refine ch_enter rfl rfl ?_
  intro X hl0 h hG hR hnm
  have h : ch_H X E RL cL_all 5 := h
  have hm12 := hw.1
  have hc8 := hw.2.1
  show ch_W X E 5 S μ 0 0 0 [(0, .ref (S.1 15 11 0)), (1, .ref (S.1 16 22 0))] []
  refine ca_aload_nr h dL_all_0 rfl ?_
  refine oa_v h hG ml_L_108 (c_X11_clock hs) (ci := 11) rfl rfl rfl (hs.1 _ _ _ ⟨rfl, rfl⟩) rfl rfl rfl rfl ⟨Nat.le_refl _, Nat.le_refl _⟩ rfl dL_all_1 ?_
  refine ca_bipush h dL_all_4 bk_31 ?_
  refine ca_aload_nr h dL_all_6 rfl ?_
  refine oa_v h hG ml_L_102 (c_X11_mobileCount hs) (ci := 11) rfl rfl rfl (hs.1 _ _ _ ⟨rfl, rfl⟩) rfl rfl rfl rfl ⟨Nat.le_refl _, Nat.le_refl _⟩ rfl dL_all_7 ?_
  refine ca_imul h dL_all_10 ?_
  refine ca_iadd h dL_all_11 ?_
  refine ca_istore_n h dL_all_12 rfl ?_
  refine ca_iconst h dL_all_13 ik_0 ?_
  refine ca_istore_n h dL_all_14 rfl ?_
  have loop_15 : ∀ (jj k : Nat), k + jj = 8 → ∀ (x2 : Int32) (e2 : x2 = kf (a_t (μ 0)) k (μ 0 0 0 3 + 31 * μ 0 0 0 2)), ch_W X E 5 S μ 0 0 15 [(0, .ref (S.1 15 11 0)), (1, .ref (S.1 16 22 0)), (2, .int x2), (3, .int (nI k))] [] := by
    intro jj
    induction jj with
    | zero =>
      intro k hn x2 e2
      have hn : k = 8 := by omega
      subst e2
      refine ca_iload_n h dL_all_15 rfl ?_
      refine ca_bipush h dL_all_16 bk_8 ?_
      refine ca_icmp_ge (tgt := 38) h dL_all_18 (by decide) (fun c_18 => ?_) (fun c_18 => ?_)
      ·
        refine ca_iconst h dL_all_38 ik_0 ?_
        refine ca_istore_n h dL_all_39 rfl ?_
        have loop_40 : ∀ (jj m : Nat), m + jj = k_mc (μ 0) → ∀ (x2 : Int32) (e2 : x2 = kf (a_m (μ 0)) m (a_1 (μ 0))), ch_W X E 5 S μ 0 0 40 [(0, .ref (S.1 15 11 0)), (1, .ref (S.1 16 22 0)), (2, .int x2), (3, .int (nI m))] [] := by
          intro jj
          induction jj with
          | zero =>
            intro m hn x2 e2
            have hn : m = k_mc (μ 0) := by omega
            subst e2
            refine ca_iload_n h dL_all_40 rfl ?_
            refine ca_aload_nr h dL_all_41 rfl ?_
            refine oa_v h hG ml_L_102 (c_X11_mobileCount hs) (ci := 11) rfl rfl rfl (hs.1 _ _ _ ⟨rfl, rfl⟩) rfl rfl rfl rfl ⟨Nat.le_refl _, Nat.le_refl _⟩ rfl dL_all_42 ?_
            refine ca_top (y := nI (k_mc (μ 0))) hmc ?_
            refine ca_icmp_ge (tgt := 167) h dL_all_45 (by decide) (fun c_45 => ?_) (fun c_45 => ?_)
            ·
              refine ca_iconst h dL_all_167 ik_0 ?_
              refine ca_istore_n h dL_all_168 rfl ?_
              have loop_169 : ∀ (jj a : Nat), a + jj = k_cc (μ 0) → ∀ (x2 : Int32) (e2 : x2 = kf (a_a (μ 0)) a (a_2 (μ 0))), ch_W X E 5 S μ 0 0 169 [(0, .ref (S.1 15 11 0)), (1, .ref (S.1 16 22 0)), (2, .int x2), (3, .int (nI a))] [] := by
                intro jj
                induction jj with
                | zero =>
                  intro a hn x2 e2
                  have hn : a = k_cc (μ 0) := by omega
                  subst e2
                  refine ca_iload_n h dL_all_169 rfl ?_
                  refine ca_aload_nr h dL_all_170 rfl ?_
                  refine gi_L_31 h hv22 dL_all_171 ?_
                  refine ca_top (y := nI (k_cc (μ 0))) hcc ?_
                  refine ca_icmp_ge (tgt := 245) h dL_all_174 (by decide) (fun c_174 => ?_) (fun c_174 => ?_)
                  ·
                    refine ca_iload_n h dL_all_245 rfl ?_
                    refine ca_ireturn h hR rfl dL_all_246 ?_
                    exact ⟨by rw [hn]; rfl, rfl, rfl⟩
                  · exact absurd c_174 (by rw [hn]; exact Int32.lt_irrefl)
                | succ jj ih_169 =>
                  intro a hn x2 e2
                  have hn1 : a < k_cc (μ 0) := by omega
                  subst e2
                  have ha := hn1
                  refine ca_iload_n h dL_all_169 rfl ?_
                  refine ca_aload_nr h dL_all_170 rfl ?_
                  refine gi_L_31 h hv22 dL_all_171 ?_
                  refine ca_top (y := nI (k_cc (μ 0))) hcc ?_
                  refine ca_icmp_ge (tgt := 245) h dL_all_174 (by decide) (fun c_174 => ?_) (fun c_174 => ?_)
                  · exact absurd (nI_lt hn1 (by omega)) c_174
                  ·
                    refine ca_bipush h dL_all_177 bk_31 ?_
                    refine ca_iload_n h dL_all_179 rfl ?_
                    refine ca_imul h dL_all_180 ?_
                    refine ca_aload_nr h dL_all_181 rfl ?_
                    refine ca_iload_n h dL_all_182 rfl ?_
                    refine oa_v h hG ml_L_133 (c_X11_congestedTicks hs hc8 hn1) (ci := 11) rfl rfl rfl (hs.1 _ _ _ ⟨rfl, rfl⟩) rfl rfl rfl rfl ⟨Nat.le_refl _, Nat.le_refl _⟩ rfl dL_all_183 ?_
                    refine ca_iadd h dL_all_186 ?_
                    refine ca_istore_n h dL_all_187 rfl ?_
                    refine ca_iconst h dL_all_188 ik_0 ?_
                    refine ca_istore h dL_all_189 rfl ?_
                    have loop_191 : ∀ (jj b : Nat), b + jj = k_cc (μ 0) → ∀ (x2 : Int32) (e2 : x2 = kf (a_b (μ 0) a) b (31 * (kf (a_a (μ 0)) a (a_2 (μ 0))) + μ 0 1 a 8)), ch_W X E 5 S μ 0 0 191 [(0, .ref (S.1 15 11 0)), (1, .ref (S.1 16 22 0)), (2, .int x2), (3, .int (nI a)), (4, .int (nI b))] [] := by
                      intro jj
                      induction jj with
                      | zero =>
                        intro b hn x2 e2
                        have hn : b = k_cc (μ 0) := by omega
                        subst e2
                        refine ca_iload h dL_all_191 rfl ?_
                        refine ca_aload_nr h dL_all_193 rfl ?_
                        refine gi_L_31 h hv22 dL_all_194 ?_
                        refine ca_top (y := nI (k_cc (μ 0))) hcc ?_
                        refine ca_icmp_ge (tgt := 239) h dL_all_197 (by decide) (fun c_197 => ?_) (fun c_197 => ?_)
                        ·
                          refine ca_iinc h dL_all_239 rfl ik_1 rfl ?_
                          rw [show nI a + 1 = nI (a + 1) from nI_1 _]
                          refine ca_goto (tgt := 169) h dL_all_242 (by decide) ?_
                          refine ca_pick [1, 2, 3, 0] rfl ?_
                          exact ih_169 (a + 1) (by omega) _ (by rw [hn]; rfl)
                        · exact absurd c_197 (by rw [hn]; exact Int32.lt_irrefl)
                      | succ jj ih_191 =>
                        intro b hn x2 e2
                        have hn1 : b < k_cc (μ 0) := by omega
                        subst e2
                        refine ca_iload h dL_all_191 rfl ?_
                        refine ca_aload_nr h dL_all_193 rfl ?_
                        refine gi_L_31 h hv22 dL_all_194 ?_
                        refine ca_top (y := nI (k_cc (μ 0))) hcc ?_
                        refine ca_icmp_ge (tgt := 239) h dL_all_197 (by decide) (fun c_197 => ?_) (fun c_197 => ?_)
                        · exact absurd (nI_lt hn1 (by omega)) c_197
                        ·
                          refine ca_bipush h dL_all_200 bk_31 ?_
                          refine ca_iload_n h dL_all_202 rfl ?_
                          refine ca_imul h dL_all_203 ?_
                          refine ca_aload_nr h dL_all_204 rfl ?_
                          refine ca_iload_n h dL_all_205 rfl ?_
                          refine ca_iload h dL_all_206 rfl ?_
                          refine oa_v h hG ml_L_142 (c_X11_hysteresis hs hc8 ha hn1) (ci := 11) rfl rfl rfl (hs.1 _ _ _ ⟨rfl, rfl⟩) rfl rfl rfl rfl ⟨Nat.le_refl _, Nat.le_refl _⟩ rfl dL_all_208 ?_
                          refine ca_iadd h dL_all_211 ?_
                          refine ca_iconst h dL_all_212 ik_5 ?_
                          refine ca_aload_nr h dL_all_213 rfl ?_
                          refine ca_iload_n h dL_all_214 rfl ?_
                          refine ca_iload h dL_all_215 rfl ?_
                          refine oa_v h hG ml_L_144 (c_X11_successes hs hc8 ha hn1) (ci := 11) rfl rfl rfl (hs.1 _ _ _ ⟨rfl, rfl⟩) rfl rfl rfl rfl ⟨Nat.le_refl _, Nat.le_refl _⟩ rfl dL_all_217 ?_
                          refine ca_imul h dL_all_220 ?_
                          refine ca_iadd h dL_all_221 ?_
                          refine ca_iconst h dL_all_222 ik_3 ?_
                          refine ca_aload_nr h dL_all_223 rfl ?_
                          refine ca_iload_n h dL_all_224 rfl ?_
                          refine ca_iload h dL_all_225 rfl ?_
                          refine oa_v h hG ml_L_149 (c_X11_refusals hs hc8 ha hn1) (ci := 11) rfl rfl rfl (hs.1 _ _ _ ⟨rfl, rfl⟩) rfl rfl rfl rfl ⟨Nat.le_refl _, Nat.le_refl _⟩ rfl dL_all_227 ?_
                          refine ca_imul h dL_all_230 ?_
                          refine ca_iadd h dL_all_231 ?_
                          refine ca_istore_n h dL_all_232 rfl ?_
                          refine ca_iinc h dL_all_233 rfl ik_1 rfl ?_
                          rw [show nI b + 1 = nI (b + 1) from nI_1 _]
                          refine ca_goto (tgt := 191) h dL_all_236 (by decide) ?_
                          refine ca_pick [2, 3, 1, 4, 0] rfl ?_
                          exact ih_191 (b + 1) (by omega) _ rfl
                    refine ca_pick [2, 3, 1, 4, 0] rfl ?_
                    exact loop_191 (k_cc (μ 0)) 0 (by omega) _ rfl
              refine ca_pick [1, 2, 3, 0] rfl ?_
              exact loop_169 (k_cc (μ 0)) 0 (by omega) _ (by rw [hn]; rfl)
            · exact absurd c_45 (by rw [hn]; exact Int32.lt_irrefl)
          | succ jj ih_40 =>
            intro m hn x2 e2
            have hn1 : m < k_mc (μ 0) := by omega
            subst e2
            have hm := hn1
            refine ca_iload_n h dL_all_40 rfl ?_
            refine ca_aload_nr h dL_all_41 rfl ?_
            refine oa_v h hG ml_L_102 (c_X11_mobileCount hs) (ci := 11) rfl rfl rfl (hs.1 _ _ _ ⟨rfl, rfl⟩) rfl rfl rfl rfl ⟨Nat.le_refl _, Nat.le_refl _⟩ rfl dL_all_42 ?_
            refine ca_top (y := nI (k_mc (μ 0))) hmc ?_
            refine ca_icmp_ge (tgt := 167) h dL_all_45 (by decide) (fun c_45 => ?_) (fun c_45 => ?_)
            · exact absurd (nI_lt hn1 (by omega)) c_45
            ·
              refine ca_bipush h dL_all_48 bk_31 ?_
              refine ca_iload_n h dL_all_50 rfl ?_
              refine ca_imul h dL_all_51 ?_
              refine ca_aload_nr h dL_all_52 rfl ?_
              refine ca_iload_n h dL_all_53 rfl ?_
              refine oa_v h hG ml_L_158 (c_X11_x hs hm12 hm) (ci := 11) rfl rfl rfl (hs.1 _ _ _ ⟨rfl, rfl⟩) rfl rfl rfl rfl ⟨Nat.le_refl _, Nat.le_refl _⟩ rfl dL_all_54 ?_
              refine ca_iadd h dL_all_57 ?_
              refine ca_sipush h dL_all_58 sk_1000 ?_
              refine ca_aload_nr h dL_all_61 rfl ?_
              refine ca_iload_n h dL_all_62 rfl ?_
              refine oa_v h hG ml_L_165 (c_X11_y hs hm12 hm) (ci := 11) rfl rfl rfl (hs.1 _ _ _ ⟨rfl, rfl⟩) rfl rfl rfl rfl ⟨Nat.le_refl _, Nat.le_refl _⟩ rfl dL_all_63 ?_
              refine ca_imul h dL_all_66 ?_
              refine ca_iadd h dL_all_67 ?_
              refine ca_aload_nr h dL_all_68 rfl ?_
              refine ca_iload_n h dL_all_69 rfl ?_
              refine oa_v h hG ml_L_170 (c_X11_state hs hm12 hm) (ci := 11) rfl rfl rfl (hs.1 _ _ _ ⟨rfl, rfl⟩) rfl rfl rfl rfl ⟨Nat.le_refl _, Nat.le_refl _⟩ rfl dL_all_70 ?_
              refine ca_iadd h dL_all_73 ?_
              refine ca_bipush h dL_all_74 bk_7 ?_
              refine ca_aload_nr h dL_all_76 rfl ?_
              refine ca_iload_n h dL_all_77 rfl ?_
              refine oa_v h hG ml_L_175 (c_X11_servingCell hs hm12 hm) (ci := 11) rfl rfl rfl (hs.1 _ _ _ ⟨rfl, rfl⟩) rfl rfl rfl rfl ⟨Nat.le_refl _, Nat.le_refl _⟩ rfl dL_all_78 ?_
              refine ca_imul h dL_all_81 ?_
              refine ca_iadd h dL_all_82 ?_
              refine ca_bipush h dL_all_83 bk_11 ?_
              refine ca_aload_nr h dL_all_85 rfl ?_
              refine ca_iload_n h dL_all_86 rfl ?_
              refine oa_v h hG ml_L_180 (c_X11_remaining hs hm12 hm) (ci := 11) rfl rfl rfl (hs.1 _ _ _ ⟨rfl, rfl⟩) rfl rfl rfl rfl ⟨Nat.le_refl _, Nat.le_refl _⟩ rfl dL_all_87 ?_
              refine ca_imul h dL_all_90 ?_
              refine ca_iadd h dL_all_91 ?_
              refine ca_bipush h dL_all_92 bk_13 ?_
              refine ca_aload_nr h dL_all_94 rfl ?_
              refine ca_iload_n h dL_all_95 rfl ?_
              refine oa_v h hG ml_L_186 (c_X11_requestCell hs hm12 hm) (ci := 11) rfl rfl rfl (hs.1 _ _ _ ⟨rfl, rfl⟩) rfl rfl rfl rfl ⟨Nat.le_refl _, Nat.le_refl _⟩ rfl dL_all_96 ?_
              refine ca_imul h dL_all_99 ?_
              refine ca_iadd h dL_all_100 ?_
              refine ca_istore_n h dL_all_101 rfl ?_
              refine ca_iconst h dL_all_102 ik_0 ?_
              refine ca_istore h dL_all_103 rfl ?_
              have loop_105 : ∀ (jj c : Nat), c + jj = k_cc (μ 0) → ∀ (x2 : Int32) (e2 : x2 = kf (a_c (μ 0) m) c (a_m0 (μ 0) m (kf (a_m (μ 0)) m (a_1 (μ 0))))), ch_W X E 5 S μ 0 0 105 [(0, .ref (S.1 15 11 0)), (1, .ref (S.1 16 22 0)), (2, .int x2), (3, .int (nI m)), (4, .int (nI c))] [] := by
                intro jj
                induction jj with
                | zero =>
                  intro c hn x2 e2
                  have hn : c = k_cc (μ 0) := by omega
                  subst e2
                  refine ca_iload h dL_all_105 rfl ?_
                  refine ca_aload_nr h dL_all_107 rfl ?_
                  refine gi_L_31 h hv22 dL_all_108 ?_
                  refine ca_top (y := nI (k_cc (μ 0))) hcc ?_
                  refine ca_icmp_ge (tgt := 161) h dL_all_111 (by decide) (fun c_111 => ?_) (fun c_111 => ?_)
                  ·
                    refine ca_iinc h dL_all_161 rfl ik_1 rfl ?_
                    rw [show nI m + 1 = nI (m + 1) from nI_1 _]
                    refine ca_goto (tgt := 40) h dL_all_164 (by decide) ?_
                    refine ca_pick [1, 2, 3, 0] rfl ?_
                    exact ih_40 (m + 1) (by omega) _ (by rw [hn]; rfl)
                  · exact absurd c_111 (by rw [hn]; exact Int32.lt_irrefl)
                | succ jj ih_105 =>
                  intro c hn x2 e2
                  have hn1 : c < k_cc (μ 0) := by omega
                  subst e2
                  refine ca_iload h dL_all_105 rfl ?_
                  refine ca_aload_nr h dL_all_107 rfl ?_
                  refine gi_L_31 h hv22 dL_all_108 ?_
                  refine ca_top (y := nI (k_cc (μ 0))) hcc ?_
                  refine ca_icmp_ge (tgt := 161) h dL_all_111 (by decide) (fun c_111 => ?_) (fun c_111 => ?_)
                  · exact absurd (nI_lt hn1 (by omega)) c_111
                  ·
                    refine ca_bipush h dL_all_114 bk_31 ?_
                    refine ca_iload_n h dL_all_116 rfl ?_
                    refine ca_imul h dL_all_117 ?_
                    refine ca_aload_nr h dL_all_118 rfl ?_
                    refine ca_iload_n h dL_all_119 rfl ?_
                    refine ca_iload h dL_all_120 rfl ?_
                    refine oa_v h hG ml_L_198 (c_X11_average hs hw hm hn1) (ci := 11) rfl rfl rfl (hs.1 _ _ _ ⟨rfl, rfl⟩) rfl rfl rfl rfl ⟨Nat.le_refl _, Nat.le_refl _⟩ rfl dL_all_122 ?_
                    refine ca_iadd h dL_all_125 ?_
                    refine ca_bipush h dL_all_126 bk_100 ?_
                    refine ca_aload_nr h dL_all_128 rfl ?_
                    refine ca_iload_n h dL_all_129 rfl ?_
                    refine ca_iload h dL_all_130 rfl ?_
                    refine oa_v h hG ml_L_195 (c_X11_reportCount hs hw hm hn1) (ci := 11) rfl rfl rfl (hs.1 _ _ _ ⟨rfl, rfl⟩) rfl rfl rfl rfl ⟨Nat.le_refl _, Nat.le_refl _⟩ rfl dL_all_132 ?_
                    refine ca_imul h dL_all_135 ?_
                    refine ca_iadd h dL_all_136 ?_
                    refine ca_aload_nr h dL_all_137 rfl ?_
                    refine ca_iload_n h dL_all_138 rfl ?_
                    refine ca_iload h dL_all_139 rfl ?_
                    refine oa_v h hG ml_L_203 (c_X11_isBarred hs hw hm hn1) (ci := 11) rfl rfl rfl (hs.1 _ _ _ ⟨rfl, rfl⟩) rfl rfl rfl rfl ⟨Nat.le_refl _, Nat.le_refl _⟩ rfl dL_all_141 ?_
                    refine ca_if_eq (tgt := 152) h dL_all_144 (by decide) (fun c_144 => ?_) (fun c_144 => ?_)
                    ·
                      refine ca_iconst h dL_all_152 ik_0 ?_
                      refine ca_iadd h dL_all_153 ?_
                      refine ca_istore_n h dL_all_154 rfl ?_
                      refine ca_iinc h dL_all_155 rfl ik_1 rfl ?_
                      rw [show nI c + 1 = nI (c + 1) from nI_1 _]
                      refine ca_goto (tgt := 105) h dL_all_158 (by decide) ?_
                      refine ca_pick [2, 3, 1, 4, 0] rfl ?_
                      exact ih_105 (c + 1) (by omega) _ (by rw [kf_s]; generalize kf (a_c (μ 0) m) c (a_m0 (μ 0) m (kf (a_m (μ 0)) m (a_1 (μ 0)))) = v; unfold a_c; rw [if_neg (fun z => bI_n0.mpr z c_144)])
                    ·
                      refine ca_bipush h dL_all_147 bk_7 ?_
                      refine ca_goto (tgt := 153) h dL_all_149 (by decide) ?_
                      refine ca_iadd h dL_all_153 ?_
                      refine ca_istore_n h dL_all_154 rfl ?_
                      refine ca_iinc h dL_all_155 rfl ik_1 rfl ?_
                      rw [show nI c + 1 = nI (c + 1) from nI_1 _]
                      refine ca_goto (tgt := 105) h dL_all_158 (by decide) ?_
                      refine ca_pick [2, 3, 1, 4, 0] rfl ?_
                      exact ih_105 (c + 1) (by omega) _ (by rw [kf_s]; generalize kf (a_c (μ 0) m) c (a_m0 (μ 0) m (kf (a_m (μ 0)) m (a_1 (μ 0)))) = v; unfold a_c; rw [if_pos (bI_n0.mp c_144)])
              refine ca_pick [2, 3, 1, 4, 0] rfl ?_
              exact loop_105 (k_cc (μ 0)) 0 (by omega) _ rfl
        refine ca_pick [1, 2, 3, 0] rfl ?_
        exact loop_40 (k_mc (μ 0)) 0 (by omega) _ (by rw [hn]; rfl)
      · exact absurd c_18 (by rw [hn]; decide)
    | succ jj ih_15 =>
      intro k hn x2 e2
      have hn1 : k < 8 := by omega
      subst e2
      refine ca_iload_n h dL_all_15 rfl ?_
      refine ca_bipush h dL_all_16 bk_8 ?_
      refine ca_icmp_ge (tgt := 38) h dL_all_18 (by decide) (fun c_18 => ?_) (fun c_18 => ?_)
      · exact absurd (nI_lt hn1 (by omega)) c_18
      ·
        refine ca_bipush h dL_all_21 bk_31 ?_
        refine ca_iload_n h dL_all_23 rfl ?_
        refine ca_imul h dL_all_24 ?_
        refine ca_aload_nr h dL_all_25 rfl ?_
        refine ca_iload_n h dL_all_26 rfl ?_
        refine oa_v h hG ml_L_113 (c_X11_total hs) (ci := 11) rfl rfl rfl (hs.1 _ _ _ ⟨rfl, rfl⟩) rfl rfl rfl rfl ⟨Nat.le_refl _, Nat.le_refl _⟩ rfl dL_all_27 ?_
        refine ca_iadd h dL_all_30 ?_
        refine ca_istore_n h dL_all_31 rfl ?_
        refine ca_iinc h dL_all_32 rfl ik_1 rfl ?_
        rw [show nI k + 1 = nI (k + 1) from nI_1 _]
        refine ca_goto (tgt := 15) h dL_all_35 (by decide) ?_
        refine ca_pick [2, 3, 1, 0] rfl ?_
        exact ih_15 (k + 1) (by omega) _ rfl
  refine ca_pick [2, 3, 1, 0] rfl ?_
  exact loop_15 8 0 (by omega) _ rfl
