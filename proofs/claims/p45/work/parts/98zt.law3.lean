theorem tick_k {kd : Nat} (h : kd ≤ 16) (s : ch_N × ch_N) : (k_tick s).2 kd = s.2 kd := by
  have e0 : k_adv 0 s = s := rfl
  have e : k_adv (0 + 1) s = k_tick (k_adv 0 s) := rfl
  have := k_adv_k h (0 + 1) s
  rw [e, e0] at this
  exact this
theorem tick_wf {s : ch_N × ch_N} (h : k_wf s.1) : k_wf (k_tick s).1 := k_adv_wf 1 s h
theorem gd_tick {C : Nat} {s : ch_N × ch_N} (h : o_gd C s.1) : o_gd C (k_tick s).1 := by
  have e : ∀ f, f ≠ 3 → (k_tick s).1 0 0 f = s.1 0 0 f := fun f hf => by rw [k_tick_00, if_neg hf]
  refine ⟨tick_wf h.1, ?_, ?_⟩
  · unfold k_mc; rw [e 2 (by decide)]; exact h.2.1
  · unfold k_cc; rw [e 0 (by decide)]; exact h.2.2
theorem NW_gd {n : ch_N} {w : Nat → Int32} {S : ch_S} {μ : ch_M} {C : Nat} (h : o_NW n w S μ) (hc : k_cc n = C) : o_gd C n := ⟨h.wf, (nI_cn h.rn.2.1.2.1.2.2.2.2).symm, hc⟩
theorem rcm_at {μ : ch_M} {j : Nat} (hj : j < 12) (N : ch_N) : up (k_rcm μ j) 0 N 0 = N ∧ (∀ k, k ≠ 0 → k ≠ 15 → k ≠ 3 + j → up (k_rcm μ j) 0 N k = μ k) ∧ up (k_rcm μ j) 0 N (3 + j) = k_cp (μ (3 + j)) (μ 0) ∧ up (k_rcm μ j) 0 N 15 = k_rec (μ 15) := by
  unfold k_rcm
  exact ⟨up_s _ _ _, fun k a b c => by rw [up_n a, up_n b, up_n c], by rw [up_n (by omega), up_n (by omega), up_s], by rw [up_n (by decide), up_s]⟩
theorem srun_at {μ : ch_M} {j : Nat} (hj : j < 12) : s_run μ j 0 = (k_tick (μ 0, k_rec (μ 15))).1 ∧ (∀ k, k ≠ 0 → k ≠ 15 → k ≠ 3 + j → s_run μ j k = μ k) ∧ s_run μ j (3 + j) = k_cp (μ (3 + j)) (μ 0) ∧ ∀ kd, kd ≤ 16 → s_run μ j 15 kd = k_rec (μ 15) kd := by
  obtain ⟨a, b, c, d⟩ := rcm_at (μ := μ) hj (k_tick (μ 0, k_rec (μ 15))).1
  unfold s_run
  exact ⟨by rw [up_n (by decide)]; exact a, fun k x y z => by rw [up_n y]; exact b k x y z, by rw [up_n (by omega)]; exact c, fun kd h => by rw [up_s]; exact tick_k h _⟩
/-- the told values moved down as far as q -/
def o_sf (q : Nat) (μ μ' : ch_M) : Prop := (∀ k kd i j, ¬ (k = 19 ∧ kd = 52 ∧ i = 0) → μ' k kd i j = μ k kd i j) ∧ ∀ x, x < 12 → μ' 19 52 0 x = if x < q then μ 19 52 0 (x + 1) else μ 19 52 0 x
theorem o_sf_0 (μ : ch_M) : o_sf 0 μ μ := ⟨fun _ _ _ _ _ => rfl, fun x _ => (if_neg (Nat.not_lt_zero x)).symm⟩
theorem o_sf_s {q : Nat} {μ μ' : ch_M} (h : o_sf q μ μ') (hq : q < 11) : o_sf (q + 1) μ (ch_st μ' 19 52 0 q (μ' 19 52 0 (q + 1))) := by
  refine ⟨fun k kd i j g => by rw [ch_st_at, if_neg (fun z => g ⟨z.1, z.2.1, z.2.2.1⟩)]; exact h.1 k kd i j g, fun x hx => ?_⟩
  rw [ch_st_at]
  by_cases g : x = q
  · rw [if_pos ⟨rfl, rfl, rfl, g⟩, h.2 (q + 1) (by omega), if_neg (by omega), if_pos (by omega), g]
  · rw [if_neg (fun z => g z.2.2.2), h.2 x hx]
    by_cases g2 : x < q
    · rw [if_pos g2, if_pos (by omega)]
    · rw [if_neg g2, if_neg (by omega)]
set_option maxHeartbeats 400000 in
theorem c_lawT {X : ch_X} {E : ch_E} {n u j : Nat} {bf : Int32} {wr : Nat → Int32} {w : Nat → Int32} {S S0 : ch_S} {μ μ0 : ch_M} (h : ch_H X E RL cL_law 12) (hG : ch_G X 10 687974 7037776) (kk : ∀ (S : ch_S) (μ : ch_M) (u j : Nat) (wr : Nat → Int32) (w : Nat → Int32), o_LX E (108 * (n + 1)) (n + 1) bf u j wr S μ → o_NW (μ 0) w S μ → ch_W X E 12 S μ (2100 + 1000 * (n + 1)) (27000 + 2500 * (n + 1)) 112 [(0, .ref (ch_sb E)), (1, .ref (S.1 15 11 0)), (3, .ref (S.1 16 22 0)), (5, .int bf), (6, .ref (S.1 19 52 0)), (7, .int (nI u)), (8, .int (nI (n + 1)))] []) (hn24 : n < 24) (hX : o_LX E (108 * (n + 1)) (n + 1) bf u j wr S μ) (hN : o_NW (μ 0) w S μ) : ch_W X E 12 S μ (2100 + 1000 * (n + 1)) (27000 + 2500 * (n + 1)) 259 [(0, .ref (ch_sb E)), (1, .ref (S.1 15 11 0)), (3, .ref (S.1 16 22 0)), (5, .int bf), (6, .ref (S.1 19 52 0)), (7, .int (nI u)), (8, .int (nI n))] [] := by
  have hs := hX.1.1
  have hH := hX.1.2.2.2.2.2.1
  obtain ⟨x0, hg0, hJ0, -, -⟩ := hX.1.2.2.2.2.1
  refine ca_aload_nr h dL_law_259 rfl ?_
  refine oa_v h hG ml_L_252 (c_X11_undoCount hs) (ci := 11) rfl rfl rfl (hs.1 _ _ _ ⟨rfl, rfl⟩) rfl rfl rfl rfl ⟨by omega, by omega⟩ rfl dL_law_260 ?_
  rw [hH.2.2.1]
  refine ca_iload h dL_law_263 rfl ?_
  refine ca_icmp_ne (tgt := 276) h dL_law_265 (by decide) (fun c_265 => ?_) (fun c_265 => ?_)
  · exact absurd rfl c_265
  ·
    refine ca_aload_nr h dL_law_268 rfl ?_
    refine ca_aload_nr h dL_law_269 rfl ?_
    refine oa_S h hG ms_L_273 (c_L_isSound hs rfl hN hJ0.2.1 hJ0.2.2.1.age (s_J_Snd hJ0 (by omega))) rfl rfl rfl rfl ⟨by omega, by omega⟩ rfl dL_law_270 ?_
    intro v S1 μ1 hp
    obtain ⟨rfl, hS1, hf⟩ := hp
    replace hS1 := hS1.symm
    subst hS1
    have hX1 : o_LX E (108 * (n + 1)) (n + 1) bf u j wr S μ1 := ⟨LY_15 hX.1 hf.1 hf.2, fun i hi => by rw [hf.1 19 (by decide)]; exact hX.2 i hi⟩
    have hN1 : o_NW (μ1 0) w S μ1 := by rw [hf.1 0 (by decide)]; exact o_NW_x hN rfl rfl rfl rfl rfl (hf.1 16 (by decide)) (hf.1 18 (by decide))
    refine ca_if_ne (tgt := 278) h dL_law_273 (by decide) (fun c_273 => ?_) (fun c_273 => ?_)
    ·
      refine ca_iinc h dL_law_278 rfl ik_1 rfl ?_
      rw [show nI n + 1 = nI (n + 1) from nI_1 _]
      refine ca_goto (tgt := 112) h dL_law_281 (by decide) ?_
      refine ca_widen (k := (2100 + 1000 * (n + 1))) (n := (27000 + 2500 * (n + 1))) (by omega) (by omega) ?_
      exact ca_pick [1, 2, 3, 4, 5, 6, 0] rfl (kk S μ1 u j wr w hX1 hN1)
    · exact absurd c_273 (by decide)
set_option maxHeartbeats 400000 in
theorem c_lawW1 {X : ch_X} {E : ch_E} {n u j : Nat} {bf : Int32} {wr : Nat → Int32} {w : Nat → Int32} {x : Int32} {S S0 : ch_S} {μ μ0 : ch_M} (h : ch_H X E RL cL_law 12) (hG : ch_G X 10 687974 7037776) (kk : ∀ (S : ch_S) (μ : ch_M) (u j : Nat) (wr : Nat → Int32) (w : Nat → Int32), o_LX E (108 * (n + 1)) (n + 1) bf u j wr S μ → o_NW (μ 0) w S μ → ch_W X E 12 S μ (2100 + 1000 * (n + 1)) (27000 + 2500 * (n + 1)) 112 [(0, .ref (ch_sb E)), (1, .ref (S.1 15 11 0)), (3, .ref (S.1 16 22 0)), (5, .int bf), (6, .ref (S.1 19 52 0)), (7, .int (nI u)), (8, .int (nI (n + 1)))] []) (hn24 : n < 24) (hY : o_LY E (108 * (n + 1)) (n + 1) bf (r_pu u) ((j + 1) % 12) (o_sh wr u x) S μ) (hwr : ∀ i, i < u → μ 19 52 0 i = wr i) (hN : o_NW (μ 0) w S μ) (hu : u < 12) : ch_W X E 12 S μ (2100 + 1000 * (n + 1)) (27000 + 2500 * (n + 1)) 211 [(0, .ref (ch_sb E)), (1, .ref (S.1 15 11 0)), (3, .ref (S.1 16 22 0)), (5, .int bf), (6, .ref (S.1 19 52 0)), (7, .int (nI u)), (8, .int (nI n)), (10, .int x)] [] := by
  have er : r_pu u = u + 1 := if_neg (by omega)
  refine ca_iload h dL_law_211 rfl ?_
  refine ca_bipush h dL_law_213 bk_12 ?_
  refine ca_icmp_ne (tgt := 249) h dL_law_215 (by decide) (fun c_215 => ?_) (fun c_215 => ?_)
  ·
    refine ca_aload h dL_law_249 rfl ?_
    refine ca_iload h dL_law_251 rfl ?_
    refine ca_iinc h dL_law_253 rfl ik_1 rfl ?_
    rw [show nI u + 1 = nI (u + 1) from nI_1 _]
    refine ca_iload h dL_law_256 rfl ?_
    refine oa_iast h (j := u) rfl hY.2.1.2 rfl (by omega) (by decide) dL_law_258 ?_
    have hY1 : o_LY E (108 * (n + 1)) (n + 1) bf (u + 1) ((j + 1) % 12) (o_sh wr u x) S (ch_st μ 19 52 0 u x) := LY_same (by rw [← er]; exact hY) (fun k hk => by unfold ch_st; exact up_n (by omega)) (by rw [ch_st_at, if_neg (fun z => absurd z.1 (by decide))]) hY.1 hY.2.1 (Nat.le_refl _) (Nat.le_refl _)
    have hw1 : ∀ i, i < u + 1 → ch_st μ 19 52 0 u x 19 52 0 i = o_sh wr u x i := fun i hi => by
      unfold o_sh
      rw [if_neg (by omega), ch_st_at]
      by_cases g : i = u
      · rw [if_pos ⟨rfl, rfl, rfl, g⟩, if_neg (by omega)]
      · rw [if_neg (fun z => g z.2.2.2), if_pos (by omega)]; exact hwr i (by omega)
    have hN1 : o_NW (ch_st μ 19 52 0 u x 0) w S (ch_st μ 19 52 0 u x) := by
      have e : ∀ k, k ≠ 19 → ch_st μ 19 52 0 u x k = μ k := fun k hk => by unfold ch_st; exact up_n hk
      rw [e 0 (by decide)]
      exact o_NW_x hN rfl rfl rfl rfl rfl (e 16 (by decide)) (e 18 (by decide))
    exact ca_pick [1, 2, 3, 4, 5, 0, 6] rfl (c_lawT (S0 := S) (μ0 := μ) h hG kk hn24 ⟨hY1, hw1⟩ hN1)
  · exact absurd (nI_inj (by omega) (by decide) (show nI u = nI 12 from c_215)) (by omega)
set_option maxHeartbeats 400000 in
theorem c_lawW2 {X : ch_X} {E : ch_E} {n u j : Nat} {bf : Int32} {wr : Nat → Int32} {w : Nat → Int32} {x : Int32} {S S0 : ch_S} {μ μ0 : ch_M} (h : ch_H X E RL cL_law 12) (hG : ch_G X 10 687974 7037776) (kk : ∀ (S : ch_S) (μ : ch_M) (u j : Nat) (wr : Nat → Int32) (w : Nat → Int32), o_LX E (108 * (n + 1)) (n + 1) bf u j wr S μ → o_NW (μ 0) w S μ → ch_W X E 12 S μ (2100 + 1000 * (n + 1)) (27000 + 2500 * (n + 1)) 112 [(0, .ref (ch_sb E)), (1, .ref (S.1 15 11 0)), (3, .ref (S.1 16 22 0)), (5, .int bf), (6, .ref (S.1 19 52 0)), (7, .int (nI u)), (8, .int (nI (n + 1)))] []) (hn24 : n < 24) (hY : o_LY E (108 * (n + 1)) (n + 1) bf (r_pu 12) ((j + 1) % 12) (o_sh wr 12 x) S μ) (hwr : ∀ i, i < 12 → μ 19 52 0 i = wr i) (hN : o_NW (μ 0) w S μ) : ch_W X E 12 S μ (2100 + 1000 * (n + 1)) (27000 + 2500 * (n + 1)) 211 [(0, .ref (ch_sb E)), (1, .ref (S.1 15 11 0)), (3, .ref (S.1 16 22 0)), (5, .int bf), (6, .ref (S.1 19 52 0)), (7, .int (nI 12)), (8, .int (nI n)), (10, .int x)] [] := by
  refine ca_iload h dL_law_211 rfl ?_
  refine ca_bipush h dL_law_213 bk_12 ?_
  refine ca_icmp_ne (tgt := 249) h dL_law_215 (by decide) (fun c_215 => ?_) (fun c_215 => ?_)
  · exact absurd rfl c_215
  ·
    refine ca_iconst h dL_law_218 ik_1 ?_
    refine ca_istore h dL_law_219 rfl ?_
    have loop_221 : ∀ (jj q : Nat), q + jj = 11 → ∀ (μi : ch_M) (hsf : o_sf q μ μi), ch_W X E 12 S μi (2100 + 1000 * (n + 1)) (27000 + 2500 * (n + 1)) 221 [(0, .ref (ch_sb E)), (1, .ref (S.1 15 11 0)), (3, .ref (S.1 16 22 0)), (5, .int bf), (6, .ref (S.1 19 52 0)), (7, .int (nI 12)), (8, .int (nI n)), (10, .int x), (11, .int (nI (q + 1)))] [] := by
      intro jj
      induction jj with
      | zero =>
        intro q hn μi hsf
        have hn : q = 11 := by omega
        have h11 : q = 11 := by omega
        subst h11
        refine ca_iload h dL_law_221 rfl ?_
        refine ca_bipush h dL_law_223 bk_12 ?_
        refine ca_icmp_ge (tgt := 246) h dL_law_225 (by decide) (fun c_225 => ?_) (fun c_225 => ?_)
        ·
          refine ca_iinc h dL_law_246 rfl ik_m1 rfl ?_
          refine ca_aload h dL_law_249 rfl ?_
          refine ca_iload h dL_law_251 rfl ?_
          refine ca_iinc h dL_law_253 rfl ik_1 rfl ?_
          refine ca_iload h dL_law_256 rfl ?_
          refine oa_iast h (j := 11) rfl hY.2.1.2 (by decide) (by omega) (by decide) dL_law_258 ?_
          have hk : ∀ k, k ≠ 19 → ch_st μi 19 52 0 11 x k = μ k := fun k hk => by
            unfold ch_st
            rw [up_n hk]
            funext a b c
            exact hsf.1 k a b c (fun z => hk z.1)
          have hY1 : o_LY E (108 * (n + 1)) (n + 1) bf 12 ((j + 1) % 12) (o_sh wr 12 x) S (ch_st μi 19 52 0 11 x) := LY_same (show o_LY E (108 * (n + 1)) (n + 1) bf 12 ((j + 1) % 12) (o_sh wr 12 x) S μ from hY) (fun k h => hk k (by omega)) (by rw [hk 16 (by decide)]) hY.1 hY.2.1 (Nat.le_refl _) (Nat.le_refl _)
          have hw1 : ∀ i, i < 12 → ch_st μi 19 52 0 11 x 19 52 0 i = o_sh wr 12 x i := fun i hi => by
            unfold o_sh
            rw [if_pos rfl, ch_st_at]
            by_cases g : i = 11
            · rw [if_pos ⟨rfl, rfl, rfl, g⟩, if_neg (by omega)]
            · rw [if_neg (fun z => g z.2.2.2), if_pos (by omega), hsf.2 i hi, if_pos (by omega)]; exact hwr (i + 1) (by omega)
          have hN1 : o_NW (ch_st μi 19 52 0 11 x 0) w S (ch_st μi 19 52 0 11 x) := by
            rw [hk 0 (by decide)]
            exact o_NW_x hN rfl rfl rfl rfl rfl (hk 16 (by decide)) (hk 18 (by decide))
          rw [show nI 12 + -1 + 1 = nI 12 by decide]
          exact ca_pick [1, 2, 3, 4, 5, 0, 6] rfl (c_lawT (S0 := S) (μ0 := μ) h hG kk hn24 ⟨hY1, hw1⟩ hN1)
        · exact absurd (show nI (11 + 1) < 12 from c_225) (by decide)
      | succ jj ih_221 =>
        intro q hn μi hsf
        have hn1 : q < 11 := by omega
        refine ca_iload h dL_law_221 rfl ?_
        refine ca_bipush h dL_law_223 bk_12 ?_
        refine ca_icmp_ge (tgt := 246) h dL_law_225 (by decide) (fun c_225 => ?_) (fun c_225 => ?_)
        · exact absurd (nI_lt (b := 12) (by omega) (by decide)) c_225
        ·
          refine ca_aload h dL_law_228 rfl ?_
          refine ca_iload h dL_law_230 rfl ?_
          refine ca_iconst h dL_law_232 ik_1 ?_
          refine ca_isub h dL_law_233 ?_
          refine ca_top (y := nI q) (by rw [← nI_1]; exact Int32.add_sub_cancel _ _) ?_
          refine ca_aload h dL_law_234 rfl ?_
          refine ca_iload h dL_law_236 rfl ?_
          refine oa_iald h (j := (q + 1)) rfl hY.2.1.2 rfl (by omega) (by decide) dL_law_238 ?_
          refine oa_iast h (j := q) rfl hY.2.1.2 rfl (by omega) (by decide) dL_law_239 ?_
          refine ca_iinc h dL_law_240 rfl ik_1 rfl ?_
          rw [show nI (q + 1) + 1 = nI ((q + 1) + 1) from nI_1 _]
          refine ca_goto (tgt := 221) h dL_law_243 (by decide) ?_
          refine ca_pick [1, 2, 3, 4, 5, 6, 7, 8, 0] rfl ?_
          exact ih_221 (q + 1) (by omega) _ (o_sf_s hsf hn1)
    refine ca_pick [1, 2, 3, 4, 5, 6, 7, 8, 0] rfl ?_
    exact loop_221 11 0 (by omega) μ (o_sf_0 μ)
theorem c_lawW {X : ch_X} {E : ch_E} {n u j : Nat} {bf : Int32} {wr : Nat → Int32} {w : Nat → Int32} {x : Int32} {S : ch_S} {μ : ch_M} (h : ch_H X E RL cL_law 12) (hG : ch_G X 10 687974 7037776) (kk : ∀ (S : ch_S) (μ : ch_M) (u j : Nat) (wr : Nat → Int32) (w : Nat → Int32), o_LX E (108 * (n + 1)) (n + 1) bf u j wr S μ → o_NW (μ 0) w S μ → ch_W X E 12 S μ (2100 + 1000 * (n + 1)) (27000 + 2500 * (n + 1)) 112 [(0, .ref (ch_sb E)), (1, .ref (S.1 15 11 0)), (3, .ref (S.1 16 22 0)), (5, .int bf), (6, .ref (S.1 19 52 0)), (7, .int (nI u)), (8, .int (nI (n + 1)))] []) (hn24 : n < 24) (hY : o_LY E (108 * (n + 1)) (n + 1) bf (r_pu u) ((j + 1) % 12) (o_sh wr u x) S μ) (hwr : ∀ i, i < u → μ 19 52 0 i = wr i) (hN : o_NW (μ 0) w S μ) (hu : u ≤ 12) : ch_W X E 12 S μ (2100 + 1000 * (n + 1)) (27000 + 2500 * (n + 1)) 211 [(0, .ref (ch_sb E)), (1, .ref (S.1 15 11 0)), (3, .ref (S.1 16 22 0)), (5, .int bf), (6, .ref (S.1 19 52 0)), (7, .int (nI u)), (8, .int (nI n)), (10, .int x)] [] := by
  by_cases g : u = 12
  · subst g
    exact c_lawW2 (S0 := S) (μ0 := μ) (u := 12) h hG kk hn24 hY hwr hN
  · exact c_lawW1 (S0 := S) (μ0 := μ) h hG kk hn24 hY hwr hN (by omega)
