/-! THE REFERENCE: ticks, copies of rows, the history -/
theorem k_t1_0 (n : ch_N) : (k_t1 n) 0 = n 0 := by
  unfold k_t1
  rw [kf_0 (f := s_sv) (fun c n => k_svL_0 (nI c) 12 n), kf_0 s_dr_0, kf_0 s_fin_0, kf_0 s_ms_0, kf_0 k_mv_0]
theorem k_t3_00 (n : ch_N) (j : Nat) : (k_t3 n) 0 0 j = if j = 3 then n 0 0 3 + 1 else n 0 0 j := by
  unfold k_t3
  rw [nw_at]
  have e : ∀ N M, (kf s_ex N (kf s_cg M n)) 0 = n 0 := fun N M => by rw [kf_0 s_ex_0, kf_0 s_cg_0]
  rw [e]
  by_cases h : j = 3
  · rw [if_pos ⟨rfl, rfl, h⟩, if_pos h]
  · rw [if_neg (fun z => h z.2.2), if_neg h]
theorem k_tick_00 (s : ch_N × ch_N) (j : Nat) : (k_tick s).1 0 0 j = if j = 3 then s.1 0 0 3 + 1 else s.1 0 0 j := by
  have e : ∀ N, (kf s_dc N (k_t1 s.1, s.2)).1 0 = s.1 0 := fun N => by rw [s_dc_0]; dsimp only; rw [k_t1_0]
  unfold k_tick
  dsimp only
  rw [k_t3_00, e]
theorem k_adv_s (T : Nat) (s : ch_N × ch_N) : k_adv (T + 1) s = k_tick (k_adv T s) := rfl
theorem k_adv_00 (s : ch_N × ch_N) (j : Nat) (hj : j ≠ 3) : ∀ T, (k_adv T s).1 0 0 j = s.1 0 0 j
  | 0 => rfl
  | T + 1 => by rw [k_adv_s, k_tick_00, if_neg hj, k_adv_00 s j hj T]
theorem k_adv_clk (s : ch_N × ch_N) {c : Nat} (h : s.1 0 0 3 = nI c) : ∀ T, (k_adv T s).1 0 0 3 = nI (c + T)
  | 0 => h
  | T + 1 => by rw [k_adv_s, k_tick_00, if_pos rfl, k_adv_clk s h T, nI_1]; rfl
theorem r_gt {a : Nat} (h : a ≤ 100000) : ¬ (100000 : Int32) < nI a := nI_nlt (a := 100000) (b := a) h (by decide)
set_option maxHeartbeats 100000 in
theorem c_X12_pass {l : Launch} {E : ch_E} {S : ch_S} {μ : ch_M} (hs : ch_Std E S) {n : ch_N} (hN : r_N n (μ 16 23 0)) {q : ch_N} {T c0 : Nat} (hT : T < 2 ^ 31) (hc0 : n 0 0 3 = nI c0) (hcT : c0 + T ≤ 100000) : ch_C E l yX12_pass cX12_pass 3 none 8 0 0 S μ [.ref (S.1 16 22 0), .int (nI T)] (r_Y (k_adv T (n, q)).1 S μ) := by
  refine ch_enter rfl rfl ?_
  intro X hl0 h hG hR hnm
  have h : ch_H X E RX12 cX12_pass 3 := h
  show ch_W X E 3 S μ 0 0 0 [(0, .ref (S.1 16 22 0)), (1, .int (nI T))] []
  refine ca_iconst h dX12_pass_0 ik_0 ?_
  refine ca_istore_n h dX12_pass_1 rfl ?_
  have loop_2 : ∀ (jj j : Nat), j + jj = T → ∀ (x2 : Int32) (e2 : x2 = nI j) (a : Nat → Int32) (b : Nat → Int32) (x : Int32) (w : Nat → Int32) (hNj : r_N (k_adv j (n, q)).1 w) (mm : ch_M) (em : mm = r_wq μ a b x w), ch_W X E 3 S mm 0 0 2 [(0, .ref (S.1 16 22 0)), (1, .int (nI T)), (2, .int x2)] [] := by
    intro jj
    induction jj with
    | zero =>
      intro j hn x2 e2 a b x w hNj mm em
      have hn : j = T := by omega
      subst e2 em
      refine ca_iload_n h dX12_pass_2 rfl ?_
      refine ca_iload_n h dX12_pass_3 rfl ?_
      refine ca_icmp_ge (tgt := 17) h dX12_pass_4 (by decide) (fun c_4 => ?_) (fun c_4 => ?_)
      ·
        refine ca_vreturn h hR dX12_pass_17 ?_
        exact ⟨rfl, rfl, a, b, x, w, rfl, by rw [← hn]; exact hNj⟩
      · exact absurd c_4 (nI_nlt (by omega) (by omega))
    | succ jj ih_2 =>
      intro j hn x2 e2 a b x w hNj mm em
      have hn1 : j < T := by omega
      subst e2 em
      refine ca_iload_n h dX12_pass_2 rfl ?_
      refine ca_iload_n h dX12_pass_3 rfl ?_
      refine ca_icmp_ge (tgt := 17) h dX12_pass_4 (by decide) (fun c_4 => ?_) (fun c_4 => ?_)
      · exact absurd (nI_lt hn1 (by omega)) c_4
      ·
        refine ca_aload_nr h dX12_pass_7 rfl ?_
        refine ca_vXv h hG ml_X12_251 (c_X12_passTick hs (n := (k_adv j (n, q)).1) (q := (k_adv j (n, q)).2) (by rw [r_wq_at]; exact hNj) (by rw [k_adv_clk (n, q) hc0, nI_1]; exact r_gt (by omega))) (ci := 12) rfl rfl rfl (hs.1 _ _ _ ⟨rfl, rfl⟩) rfl rfl rfl rfl ⟨Nat.le_refl _, Nat.le_refl _⟩ rfl dX12_pass_8 ?_
        intro μ9 hμ9
        obtain ⟨a2, b2, x2, w2, rfl, hNw⟩ := hμ9
        refine ca_iinc h dX12_pass_11 rfl ik_1 rfl ?_
        refine ca_goto (tgt := 2) h dX12_pass_14 (by decide) ?_
        refine ca_pick [1, 2, 0] rfl ?_
        exact ih_2 (j + 1) (by omega) _ (nI_1 j) a2 b2 x2 w2 hNw _ (by rw [r_wq_wq])
  refine ca_pick [1, 2, 0] rfl ?_
  exact loop_2 _ 0 (Nat.zero_add _) _ rfl _ _ _ _ hN _ (r_wq_id μ)
def r_cpy (w : Nat → Int32) (b : Nat) (f : Nat → Int32) (k : Nat) : Nat → Int32 := fun i => if 1302 * b ≤ i ∧ i < 1302 * b + k then f (i - 1302 * b) else w i
theorem r_cpy_0 (w : Nat → Int32) (b : Nat) (f : Nat → Int32) : r_cpy w b f 0 = w := by funext i; unfold r_cpy; rw [if_neg (by omega)]
theorem r_cpy_s (w : Nat → Int32) (b : Nat) (f : Nat → Int32) (k : Nat) : up (r_cpy w b f k) (1302 * b + k) (f k) = r_cpy w b f (k + 1) := by
  funext i
  by_cases e : i = 1302 * b + k
  · subst e; rw [up_s]; unfold r_cpy; rw [if_pos (by omega), Nat.add_sub_cancel_left]
  · rw [up_n e]; unfold r_cpy
    by_cases g : 1302 * b ≤ i ∧ i < 1302 * b + k
    · rw [if_pos g, if_pos (by omega)]
    · rw [if_neg g, if_neg (by omega)]
def r_cm (μ : ch_M) (kd a kd2 b k : Nat) : ch_M := up μ 16 (na (μ 16) kd2 0 (r_cpy (μ 16 kd2 0) b (fun j => μ 16 kd 0 (1302 * a + j)) k))
theorem r_cm_0 (μ : ch_M) (kd a kd2 b : Nat) : r_cm μ kd a kd2 b 0 = μ := by unfold r_cm; rw [r_cpy_0, na_id, up_id]
theorem r_cm_rd (μ : ch_M) {kd a kd2 b k : Nat} (h : kd ≠ kd2 ∨ a ≠ b) (hk : k < 1302) : r_cm μ kd a kd2 b k 16 kd 0 (1302 * a + k) = μ 16 kd 0 (1302 * a + k) := by
  unfold r_cm
  rw [up_s, na_at]
  by_cases e : kd = kd2
  · subst e
    rw [if_pos ⟨rfl, rfl⟩]
    unfold r_cpy
    have hab : a ≠ b := h.resolve_left (fun z => z rfl)
    rw [if_neg (by omega)]
  · rw [if_neg (fun z => e z.1)]
theorem r_cm_s (μ : ch_M) (kd a kd2 b k : Nat) : ch_st (r_cm μ kd a kd2 b k) 16 kd2 0 (1302 * b + k) (μ 16 kd 0 (1302 * a + k)) = r_cm μ kd a kd2 b (k + 1) := by
  rw [ch_st_nw]
  unfold r_cm
  rw [up_s, up_up, na_nw, ← r_cpy_s]
set_option maxHeartbeats 100000 in
theorem c_X12_copy {l : Launch} {E : ch_E} {S : ch_S} {μ : ch_M} {kd kd2 a b N1 N2 : Nat} (hv : S.2.1 16 kd 0) (hv2 : S.2.1 16 kd2 0) (hk : ch_kd kd = .inr (0, 0, N1)) (hk2 : ch_kd kd2 = .inr (0, 0, N2)) (ha : 1302 * a + 1302 ≤ N1) (hb : 1302 * b + 1302 ≤ N2) (hN1 : N1 < 2 ^ 31) (hN2 : N2 < 2 ^ 31) (hne : kd ≠ kd2 ∨ a ≠ b) : ch_C E l yX12_copy cX12_copy 5 none 1 0 0 S μ [.ref (S.1 16 kd 0), .int (nI a), .ref (S.1 16 kd2 0), .int (nI b)] (ch_F none S (r_cm μ kd a kd2 b 1302)) := by
  refine ch_enter rfl rfl ?_
  intro X hl0 h hG hR hnm
  have h : ch_H X E RX12 cX12_copy 5 := h
  show ch_W X E 5 S μ 0 0 0 [(0, .ref (S.1 16 kd 0)), (1, .int (nI a)), (2, .ref (S.1 16 kd2 0)), (3, .int (nI b))] []
  refine ca_iconst h dX12_copy_0 ik_0 ?_
  refine ca_istore h dX12_copy_1 rfl ?_
  have loop_3 : ∀ (jj k : Nat), k + jj = 1302 → ∀ (x4 : Int32) (e4 : x4 = nI k) (mm : ch_M) (em : mm = r_cm μ kd a kd2 b k), ch_W X E 5 S mm 0 0 3 [(0, .ref (S.1 16 kd 0)), (1, .int (nI a)), (2, .ref (S.1 16 kd2 0)), (3, .int (nI b)), (4, .int x4)] [] := by
    intro jj
    induction jj with
    | zero =>
      intro k hn x4 e4 mm em
      have hn : k = 1302 := by omega
      subst e4 em
      refine ca_iload h dX12_copy_3 rfl ?_
      refine ca_sipush h dX12_copy_5 sk_1302 ?_
      refine ca_icmp_ge (tgt := 37) h dX12_copy_8 (by decide) (fun c_8 => ?_) (fun c_8 => ?_)
      ·
        refine ca_vreturn h hR dX12_copy_37 ?_
        exact ⟨rfl, rfl, by rw [show k = 1302 from hn]⟩
      · exact absurd c_8 (nI_nlt (a := k) (b := 1302) (by omega) (by omega))
    | succ jj ih_3 =>
      intro k hn x4 e4 mm em
      have hn1 : k < 1302 := by omega
      subst e4 em
      refine ca_iload h dX12_copy_3 rfl ?_
      refine ca_sipush h dX12_copy_5 sk_1302 ?_
      refine ca_icmp_ge (tgt := 37) h dX12_copy_8 (by decide) (fun c_8 => ?_) (fun c_8 => ?_)
      · exact absurd (nI_lt (a := k) (b := 1302) hn1 (by decide)) c_8
      ·
        refine ca_aload_nr h dX12_copy_11 rfl ?_
        refine ca_sipush h dX12_copy_12 sk_1302 ?_
        refine ca_iload_n h dX12_copy_15 rfl ?_
        refine ca_imul h dX12_copy_16 ?_
        refine ca_iload h dX12_copy_17 rfl ?_
        refine ca_iadd h dX12_copy_19 ?_
        refine ca_top (show _ = nI (1302 * b + k) by rw [show (1302 : Int32) = nI 1302 from rfl, pk_mul, nI_add]) ?_
        refine ca_aload_nr h dX12_copy_20 rfl ?_
        refine ca_sipush h dX12_copy_21 sk_1302 ?_
        refine ca_iload_n h dX12_copy_24 rfl ?_
        refine ca_imul h dX12_copy_25 ?_
        refine ca_iload h dX12_copy_26 rfl ?_
        refine ca_iadd h dX12_copy_28 ?_
        refine ca_top (show _ = nI (1302 * a + k) by rw [show (1302 : Int32) = nI 1302 from rfl, pk_mul, nI_add]) ?_
        refine ca_iald h hk hv (vp_in_nI (by omega) hN1) dX12_copy_29 ?_
        rw [nI_clamp (show 1302 * a + k < 2 ^ 31 by omega), r_cm_rd μ hne (by omega)]
        refine ca_iast h hk2 hv2 (vp_in_nI (by omega) hN2) dX12_copy_30 ?_
        refine ca_iinc h dX12_copy_31 rfl ik_1 rfl ?_
        refine ca_goto (tgt := 3) h dX12_copy_34 (by decide) ?_
        refine ca_pick [1, 2, 3, 4, 0] rfl ?_
        exact ih_3 (k + 1) (by omega) _ (nI_1 k) _ (by rw [nI_clamp (show 1302 * b + k < 2 ^ 31 by omega), r_cm_s])
  refine ca_pick [1, 2, 3, 4, 0] rfl ?_
  exact loop_3 1302 0 (Nat.zero_add _) _ rfl _ (r_cm_0 _ _ _ _ _).symm
