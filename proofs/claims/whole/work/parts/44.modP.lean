/-! THE REFERENCE: a tick -/
theorem r_mc0 {n n' : ch_N} (h : n' 0 = n 0) : k_mc n' = k_mc n := by unfold k_mc; rw [h]
theorem r_cc0 {n n' : ch_N} (h : n' 0 = n 0) : k_cc n' = k_cc n := by unfold k_cc; rw [h]
def r_P (n : ch_N) (J : Nat) : Prop := ∀ i, i < J → n 3 i 4 = 1 → ∀ s, n 3 i 5 = nI s → s < 8 → 0 < n 5 i s
theorem r_P_step {n n' : ch_N} {J : Nat} (h : r_P n J) (hs : ∀ i, i < J → n' 3 i 4 = 1 → n 3 i 4 = 1 ∧ n' 3 i 5 = n 3 i 5 ∧ ∀ s, n' 5 i s = n 5 i s) : r_P n' J := fun i hi ht s h5 hs8 => by
  obtain ⟨g1, g2, g3⟩ := hs i hi ht
  rw [g3]
  exact h i hi g1 s (by rw [← g2]; exact h5) hs8
theorem k_ms1_5 {m c s : Nat} {n : ch_N} (hc : c < 8) (hcs : c ≠ s) : (k_ms1 m c n) 5 m s = n 5 m s := by
  unfold k_ms1
  split
  · unfold k_add k_drp
    split
    · rw [nw_at, if_neg (fun z => hcs z.2.2.symm), nw_k (by decide)]
    · rw [nw_at, if_neg (fun z => hcs z.2.2.symm), nw_k (by decide), na_k (by decide)]
  · rw [k_crp_c hc, nw_at, if_neg (fun z => hcs z.2.2.symm)]
theorem k_ms1_off {m c i : Nat} {n : ch_N} (hc : c < 8) (hi : i ≠ m) (kd : Nat) : (k_ms1 m c n) kd i = n kd i := by
  funext j
  unfold k_ms1
  split
  · unfold k_add k_drp
    split
    · simp [nw_at, hi]
    · simp [nw_at, na_at, hi]
  · rw [k_crp_c hc, nw_at, if_neg (fun z => hi z.2.1)]
theorem k_msL_off {m i : Nat} (n : ch_N) (hi : i ≠ m) (kd : Nat) : ∀ N, N ≤ 8 → (kf (k_ms1 m) N n) kd i = n kd i
  | 0, _ => rfl
  | N + 1, h => by rw [kf_s, k_ms1_off (by omega) hi, k_msL_off n hi kd N (by omega)]
theorem k_msL_wf {m : Nat} (n : ch_N) (hm : m < 13) (h : k_wf n) : ∀ N, N ≤ 8 → k_wf (kf (k_ms1 m) N n)
  | 0, _ => h
  | N + 1, hN => by rw [kf_s]; exact k_ms1_wf hm (by omega) _ (k_msL_wf n hm h N (by omega))
theorem k_msL_p {m s : Nat} (n : ch_N) (hm : m < 13) (hwf : k_wf n) (h5 : n 3 m 5 = nI s) (hs : s < 8) : ∀ N, N ≤ 8 → s < N → 0 < (kf (k_ms1 m) N n) 5 m s
  | 0, _, h => absurd h (Nat.not_lt_zero _)
  | N + 1, hN, h => by
    rw [kf_s]
    by_cases e : N = s
    · subst e
      have hw := k_msL_wf n hm hwf N (by omega)
      have e3 : (kf (k_ms1 m) N n) 3 = n 3 := k_msL_k m N n (by decide) (by decide)
      generalize kf (k_ms1 m) N n = n' at *
      have hb := (hw.2.2.2.2.2 m N hm hs)
      have hb8 := hb.2.1
      unfold k_ms1
      rw [if_pos (Or.inl (by rw [e3]; exact h5.symm))]
      unfold k_add k_drp
      split
      · rw [nw_at, if_pos ⟨rfl, rfl, rfl⟩, nI_1]; exact nI_lt (a := 0) (Nat.succ_pos _) (by omega)
      · rw [nw_at, if_pos ⟨rfl, rfl, rfl⟩, nI_1]; exact nI_lt (a := 0) (Nat.succ_pos _) (by omega)
    · rw [k_ms1_5 (by omega) e]
      exact k_msL_p n hm hwf h5 hs N (by omega) (by omega)
theorem r_P_ms {n : ch_N} {w : Nat → Int32} {m : Nat} (h : r_N n w) (hm : m < k_mc n) (hP : r_P n m) : r_P (s_ms m n) (m + 1) := by
  have hm12 := r_m12 h hm
  have hcc := h.2.2.2.2.2.2.1
  intro i hi ht s h5 hs8
  unfold s_ms at *
  by_cases e : i = m
  · subst e
    by_cases g : n 3 i 4 = 1
    · rw [if_pos g] at ht h5 ⊢
      unfold k_ms at *
      rw [k_msL_k i _ n (by decide) (by decide)] at h5
      obtain ⟨s', hs', e'⟩ := r_sv h hm g
      have : s' = s := (nI_eq (by omega) (by omega)).mp (e'.symm.trans h5)
      exact k_msL_p n (by omega) h.2.2.2.2.2 h5 hs8 (k_cc n) hcc (by omega)
    · rw [if_neg g] at ht; exact absurd ht g
  · by_cases g : n 3 m 4 = 1
    · rw [if_pos g] at ht h5 ⊢
      unfold k_ms at *
      rw [k_msL_off n e _ _ hcc] at ht h5 ⊢
      exact hP i (by omega) ht s h5 hs8
    · rw [if_neg g] at ht h5 ⊢
      exact hP i (by omega) ht s h5 hs8
theorem k_idle_3 (n : ch_N) (m i : Nat) : (k_idle n m) 3 i 4 = if i = m then 0 else n 3 i 4 := by
  unfold k_idle k_clr
  rw [na_k (by decide), na_k (by decide)]
  by_cases e : i = m
  · subst e; simp [nw_at]
  · simp [nw_at, e]
theorem k_idle_off (n : ch_N) {m i : Nat} (hi : i ≠ m) (kd : Nat) : (k_idle n m) kd i = n kd i := by
  funext j; unfold k_idle k_clr; simp [nw_at, na_at, hi]
theorem k_cnt_off (n : ch_N) (t i : Nat) {kd : Nat} (hk : kd ≠ 7) : (k_cnt n t) kd i = n kd i := by rw [k_cnt_k n t hk]
theorem r_P_fin {n : ch_N} {m J : Nat} (hP : r_P n J) : r_P (s_fin m n) J := by
  unfold s_fin
  split
  · rename_i hm
    rw [k_fin_eq]
    split
    · exact r_P_step hP (fun i hi ht => ⟨by rw [nw_at, if_neg (by omega)] at ht; exact ht, by rw [nw_at, if_neg (by omega)], fun s => by rw [nw_k (by decide)]⟩)
    · refine r_P_step hP (fun i hi ht => ?_)
      rw [k_cnt_off _ _ _ (by decide), k_idle_3] at ht
      by_cases e : i = m
      · rw [if_pos e] at ht; exact absurd ht (by decide)
      · rw [if_neg e] at ht
        exact ⟨ht, by rw [k_cnt_off _ _ _ (by decide), k_idle_off _ e], fun s => by rw [k_cnt_off _ _ _ (by decide), k_idle_off _ e]⟩
  · exact hP
theorem r_P_dr {n : ch_N} {m J : Nat} (hP : r_P n J) : r_P (s_dr m n) J := by
  unfold s_dr
  split
  · rename_i hm
    obtain ⟨v, hv⟩ : ∃ z, z = (if k_avg n m (n 3 m 5) < n 0 0 8 then n 3 m 7 + 1 else 0) := ⟨_, rfl⟩
    rw [k_dr_eq n m v hv]
    split
    · exact r_P_step hP (fun i hi ht => ⟨by rw [nw_at, if_neg (by omega)] at ht; exact ht, by rw [nw_at, if_neg (by omega)], fun s => by rw [nw_k (by decide)]⟩)
    · refine r_P_step hP (fun i hi ht => ?_)
      rw [k_cnt_off _ _ _ (by decide), k_idle_3] at ht
      by_cases e : i = m
      · rw [if_pos e] at ht; exact absurd ht (by decide)
      · rw [if_neg e] at ht
        exact ⟨ht, by rw [k_cnt_off _ _ _ (by decide), k_idle_off _ e], fun s => by rw [k_cnt_off _ _ _ (by decide), k_idle_off _ e]⟩
  · exact hP
theorem r_xy (v : Int32) : ¬ k_max 0 (k_min 999 v) < 0 ∧ ¬ 999 < k_max 0 (k_min 999 v) := by
  unfold k_max k_min
  by_cases h1 : v < 999
  · rw [if_pos h1]
    by_cases h2 : 0 < v
    · rw [if_pos h2]; exact ⟨fun z => Int32.lt_irrefl (Int32.lt_trans z h2), fun z => Int32.lt_irrefl (Int32.lt_trans z h1)⟩
    · rw [if_neg h2]; exact ⟨by decide, by decide⟩
  · rw [if_neg h1]; exact ⟨by decide, by decide⟩
theorem r_N_mv {n : ch_N} {w : Nat → Int32} {m : Nat} (h : r_N n w) (hm : m < k_mc n) : r_N (s_mv m n) (up (up w (210 + 91 * m + 0) (k_max 0 (k_min 999 (n 3 m 0 + n 3 m 2)))) (210 + 91 * m + 1) (k_max 0 (k_min 999 (n 3 m 1 + n 3 m 3)))) := by
  have e : s_mv m n = nw (nw n 3 m 0 (k_max 0 (k_min 999 (n 3 m 0 + n 3 m 2)))) 3 m 1 (k_max 0 (k_min 999 (n 3 m 1 + n 3 m 3))) := by
    unfold s_mv k_mv
    dsimp only
    rw [nw_at, if_neg (by omega), nw_at, if_neg (by omega)]
  rw [e]
  exact r_N_set (f := 1) (r_N_set (f := 0) h hm (by omega) (fun z => by omega) (fun _ => r_xy _)) (by rw [r_mc0 (nw_k (by decide))]; exact hm) (by omega) (fun z => by omega) (fun _ => r_xy _)
theorem r_R_congr' {n n' : ch_N} {w w' : Nat → Int32} (h : r_R n w) (h1 : w' 1 = w 1) (hw : ∀ j, 90 ≤ j → w' j = w j) (h2 : n' 2 = n 2) (h0 : k_cc n' = k_cc n) : r_R n' w' := by
  obtain ⟨⟨b1, b2⟩, b3, b4, b5, b6⟩ := h
  unfold r_R
  rw [h2, h0, h1]
  refine ⟨⟨b1, b2⟩, fun r hr => ?_, fun r t hr ht e1 e2 => ?_, fun a b ha hb hz => ?_, b6⟩
  · obtain ⟨a, b, g⟩ := b3 r hr
    refine ⟨a, b, ?_⟩
    rw [hw _ (by omega), hw _ (by omega), hw _ (by omega), hw _ (by omega), hw _ (by omega)]
    exact g
  · rw [hw _ (by omega), hw (90 + 5 * t) (by omega)] at e1
    rw [hw _ (by omega), hw (90 + 5 * t + 1) (by omega)] at e2
    exact b4 r t hr ht e1 e2
  · obtain ⟨r, hr, g1, g2⟩ := b5 a b ha hb hz
    exact ⟨r, hr, by rw [hw _ (by omega)]; exact g1, by rw [hw _ (by omega)]; exact g2⟩
/-- a cell's congested ticks -/
theorem r_N_cg {n : ch_N} {w : Nat → Int32} {c : Nat} {v : Int32} (h : r_N n w) (hc : c < k_cc n) : r_N (nw n 1 c 8 v) (up w (18 + 9 * c + 8) v) := by
  have hc8 := r_c8 h hc
  have hcc8 := h.2.2.2.2.2.2.1
  have h24 := r_24 h
  have ek : ∀ kd, kd ≠ 1 → nw n 1 c 8 v kd = n kd := fun kd hk => nw_k hk
  have ec : k_cc (nw n 1 c 8 v) = k_cc n := r_cc0 (ek 0 (by decide))
  have em : k_mc (nw n 1 c 8 v) = k_mc n := r_mc0 (ek 0 (by decide))
  have hM : ∀ i, i < k_mc n → r_M (nw n 1 c 8 v) (up w (18 + 9 * c + 8) v) i := fun i hi => r_M_same h hi (fun f hf => up_n (by omega)) (fun kd hk => ek kd (by omega)) (fun j => by rw [ek 2 (by decide)])
  obtain ⟨a1, ⟨a2, aK1, aK2⟩, a3, aR, aM, aW⟩ := h
  refine ⟨fun j hj => by rw [up_n (by omega), ek 0 (by decide)]; exact a1 j hj, ⟨fun t ht => by rw [up_n (by omega), ek 7 (by decide)]; exact a2 t ht, by rw [ek 0 (by decide)]; exact aK1, fun d hd => ?_⟩, fun d f hd hf => ?_, r_R_congr' aR ?_ ?_ ?_ ec, fun i hi => hM i (by rw [em] at hi; exact hi), wf_same aW (ek 0 (by decide)) (ek 5 (by decide))⟩
  · rw [ec] at hd
    have e : ∀ f, f < 8 → nw n 1 c 8 v 1 d f = n 1 d f := fun f hf => by rw [nw_at, if_neg (by omega)]
    rw [e 0 (by decide), e 1 (by decide), e 2 (by decide), e 3 (by decide)]
    exact aK2 d hd
  · rw [ec] at hd
    by_cases e : d = c ∧ f = 8
    · obtain ⟨rfl, rfl⟩ := e
      rw [up_s, nw_at, if_pos ⟨rfl, rfl, rfl⟩]
    · rw [up_n (by omega), nw_at, if_neg (fun z => e ⟨z.2.1, z.2.2⟩)]
      exact a3 d f hd hf
  · exact up_n (by omega)
  · exact fun j hj => up_n (by omega)
  · exact ek 2 (by decide)
theorem r_N_clk {n : ch_N} {w : Nat → Int32} {v : Int32} (h : r_N n w) (h0 : ¬ v < 0) (h1 : ¬ 100000 < v) : r_N (nw n 0 0 3 v) (up w 3 v) := by
  have hcc8 := h.2.2.2.2.2.2.1
  have h24 := r_24 h
  have ek : ∀ kd, kd ≠ 0 → nw n 0 0 3 v kd = n kd := fun kd hk => nw_k hk
  have e0 : ∀ j, j ≠ 3 → nw n 0 0 3 v 0 0 j = n 0 0 j := fun j hj => by rw [nw_at, if_neg (fun z => hj z.2.2)]
  have ec : k_cc (nw n 0 0 3 v) = k_cc n := by unfold k_cc; rw [e0 0 (by decide)]
  have em : k_mc (nw n 0 0 3 v) = k_mc n := by unfold k_mc; rw [e0 2 (by decide)]
  have h58 : ∀ i c, i < 13 → c < 8 → Int32.toNatClampNeg (n 5 i c) ≤ 8 := fun i c hi hc => (r_c58 h hi hc).2
  have hM : ∀ i, i < k_mc n → r_M (nw n 0 0 3 v) (up w 3 v) i := fun i hi => r_M_congr (h.2.2.2.2.1 i hi) (fun f hf => up_n (by omega)) (by rw [ek 3 (by decide)]) (by rw [ek 4 (by decide)]) (by rw [ek 5 (by decide)]) (by rw [ek 6 (by decide)]) ec (fun j => by rw [ek 2 (by decide)]) (fun c hc => h58 i c (by have := r_m12 h hi; omega) hc)
  obtain ⟨a1, ⟨a2, ⟨k1, k2, k3, k4, k5⟩, aK2⟩, a3, aR, aM, aW⟩ := h
  refine ⟨fun j hj => ?_, ⟨fun t ht => by rw [up_n (by omega), ek 7 (by decide)]; exact a2 t ht, ⟨?_, ?_, ?_, ?_, ?_⟩, fun d hd => by rw [ek 1 (by decide)]; exact aK2 d (by rw [ec] at hd; exact hd)⟩, fun d f hd hf => by rw [up_n (by omega), ek 1 (by decide)]; exact a3 d f (by rw [ec] at hd; exact hd) hf, r_R_congr' aR (up_n (by omega)) (fun j hj => up_n (by omega)) (ek 2 (by decide)) ec, fun i hi => hM i (by rw [em] at hi; exact hi), nw03_wf aW v⟩
  · by_cases e : j = 3
    · subst e; rw [up_s, nw_at, if_pos ⟨rfl, rfl, rfl⟩]
    · rw [up_n e, e0 j e]; exact a1 j hj
  · rw [nw_at, if_pos ⟨rfl, rfl, rfl⟩]; exact h0
  · rw [nw_at, if_pos ⟨rfl, rfl, rfl⟩]; exact h1
  · rw [e0 5 (by decide)]; exact k3
  · rw [e0 0 (by decide)]; exact k4
  · rw [e0 2 (by decide)]; exact k5
theorem r_clk_nn {x : Int32} (h0 : ¬ x < 0) (h2 : ¬ 100000 < x) : ¬ x + 1 < 0 := by
  obtain ⟨j, hj, rfl⟩ := r_bd (k := 100000) (by decide) h0 h2
  rw [nI_1]
  exact nI_pos (by omega)

set_option maxHeartbeats 2000000 in
theorem c_X12_passTick {l : Launch} {E : ch_E} {S : ch_S} {μ : ch_M} (hs : ch_Std E S) {n : ch_N} (hN : r_N n (μ 16 23 0)) {q : ch_N} (hck : ¬ 100000 < n 0 0 3 + 1) : ch_C E l yX12_passTick cX12_passTick 3 none 7 0 0 S μ [.ref (S.1 16 22 0)] (r_Y (k_tick (n, q)).1 S μ) := by
  refine ch_enter rfl rfl ?_
  intro X hl0 h hG hR hnm
  have h : ch_H X E RX12 cX12_passTick 3 := h
  have hmc := hN.2.2.2.2.2.1
  have hcc := hN.2.2.2.2.2.2.1
  show ch_W X E 3 S μ 0 0 0 [(0, .ref (S.1 16 22 0))] []
  refine ca_aload_nr h dX12_passTick_0 rfl ?_
  refine gs_X12_9 h hs ⟨rfl, rfl⟩ dX12_passTick_1 ?_
  refine ca_iconst h dX12_passTick_4 ik_2 ?_
  refine ca_iald h rfl (hs.1 _ _ _ ⟨rfl, rfl⟩) (vp_in_nI (n := 2) (N := 1302) (by decide) (by decide)) dX12_passTick_5 ?_
  refine ca_top (show _ = nI (k_mc n) by rw [show Int32.toNatClampNeg 2 = 2 from rfl, r_mc hN, nI_cn (by rw [hN.1 2 (by decide)]; exact hN.2.1.2.1.2.2.2.2)]) ?_
  refine ca_istore_n h dX12_passTick_6 rfl ?_
  refine ca_iconst h dX12_passTick_7 ik_0 ?_
  refine ca_istore_n h dX12_passTick_8 rfl ?_
  have loop_9 : ∀ (jj j : Nat), j + jj = k_mc n → ∀ (x2 : Int32) (e2 : x2 = nI j) (w : Nat → Int32) (hNj : r_N (kf s_mv j n) w) (mm : ch_M) (em : mm = r_wr μ w), ch_W X E 3 S mm 0 0 9 [(0, .ref (S.1 16 22 0)), (1, .int (nI (k_mc n))), (2, .int x2)] [] := by
    intro jj
    induction jj with
    | zero =>
      intro j hn x2 e2 w hNj mm em
      have hn : j = k_mc n := by omega
      subst e2 em
      obtain ⟨nj, hnj⟩ : ∃ z, z = kf s_mv j n := ⟨_, rfl⟩
      rw [← hnj] at hNj
      have e0j : nj 0 = n 0 := by rw [hnj]; exact kf_0 k_mv_0 _ n
      have emm : k_mc nj = k_mc n := r_mc0 e0j
      have ecc : k_cc nj = k_cc n := r_cc0 e0j
      refine ca_iload_n h dX12_passTick_9 rfl ?_
      refine ca_iload_n h dX12_passTick_10 rfl ?_
      refine ca_icmp_ge (tgt := 62) h dX12_passTick_11 (by decide) (fun c_11 => ?_) (fun c_11 => ?_)
      ·
        obtain ⟨n1, en1⟩ : ∃ z, z = kf s_mv (k_mc n) n := ⟨_, rfl⟩
        have hN1 : r_N n1 w := by rw [en1, ← hn, ← hnj]; exact hNj
        have z1 : n1 0 = n 0 := by rw [en1]; exact kf_0 k_mv_0 _ n
        clear hNj
        refine ca_iconst h dX12_passTick_62 ik_0 ?_
        refine ca_istore_n h dX12_passTick_63 rfl ?_
        have loop_64 : ∀ (jj j : Nat), j + jj = k_mc n → ∀ (x2 : Int32) (e2 : x2 = nI j) (w : Nat → Int32) (hNj : r_N (kf s_ms j n1) w) (hPj : r_P (kf s_ms j n1) j) (mm : ch_M) (em : mm = r_wr μ w), ch_W X E 3 S mm 0 0 64 [(0, .ref (S.1 16 22 0)), (1, .int (nI (k_mc n))), (2, .int x2)] [] := by
          intro jj
          induction jj with
          | zero =>
            intro j hn x2 e2 w hNj hPj mm em
            have hn : j = k_mc n := by omega
            subst e2 em
            obtain ⟨nj, hnj⟩ : ∃ z, z = kf s_ms j n1 := ⟨_, rfl⟩
            rw [← hnj] at hNj
            have e0j : nj 0 = n 0 := by rw [hnj]; exact (kf_0 s_ms_0 _ n1).trans z1
            have emm : k_mc nj = k_mc n := r_mc0 e0j
            have ecc : k_cc nj = k_cc n := r_cc0 e0j
            rw [← hnj] at hPj
            refine ca_iload_n h dX12_passTick_64 rfl ?_
            refine ca_iload_n h dX12_passTick_65 rfl ?_
            refine ca_icmp_ge (tgt := 88) h dX12_passTick_66 (by decide) (fun c_66 => ?_) (fun c_66 => ?_)
            ·
              obtain ⟨n2, en2⟩ : ∃ z, z = kf s_ms (k_mc n) n1 := ⟨_, rfl⟩
              have hN2 : r_N n2 w := by rw [en2, ← hn, ← hnj]; exact hNj
              have z2 : n2 0 = n 0 := by rw [en2]; exact (kf_0 s_ms_0 _ n1).trans z1
              clear hNj
              have hP2 : r_P n2 (k_mc n) := by rw [en2, ← hn, ← hnj]; exact hPj
              refine ca_iconst h dX12_passTick_88 ik_0 ?_
              refine ca_istore_n h dX12_passTick_89 rfl ?_
              have loop_90 : ∀ (jj j : Nat), j + jj = k_mc n → ∀ (x2 : Int32) (e2 : x2 = nI j) (w : Nat → Int32) (hNj : r_N (kf s_fin j n2) w) (hPj : r_P (kf s_fin j n2) (k_mc n)) (mm : ch_M) (em : mm = r_wr μ w), ch_W X E 3 S mm 0 0 90 [(0, .ref (S.1 16 22 0)), (1, .int (nI (k_mc n))), (2, .int x2)] [] := by
                intro jj
                induction jj with
                | zero =>
                  intro j hn x2 e2 w hNj hPj mm em
                  have hn : j = k_mc n := by omega
                  subst e2 em
                  obtain ⟨nj, hnj⟩ : ∃ z, z = kf s_fin j n2 := ⟨_, rfl⟩
                  rw [← hnj] at hNj
                  have e0j : nj 0 = n 0 := by rw [hnj]; exact (kf_0 s_fin_0 _ n2).trans z2
                  have emm : k_mc nj = k_mc n := r_mc0 e0j
                  have ecc : k_cc nj = k_cc n := r_cc0 e0j
                  rw [← hnj] at hPj
                  refine ca_iload_n h dX12_passTick_90 rfl ?_
                  refine ca_iload_n h dX12_passTick_91 rfl ?_
                  refine ca_icmp_ge (tgt := 114) h dX12_passTick_92 (by decide) (fun c_92 => ?_) (fun c_92 => ?_)
                  ·
                    obtain ⟨n3, en3⟩ : ∃ z, z = kf s_fin (k_mc n) n2 := ⟨_, rfl⟩
                    have hN3 : r_N n3 w := by rw [en3, ← hn, ← hnj]; exact hNj
                    have z3 : n3 0 = n 0 := by rw [en3]; exact (kf_0 s_fin_0 _ n2).trans z2
                    clear hNj
                    have hP3 : r_P n3 (k_mc n) := by rw [en3, ← hn, ← hnj, hn]; exact hPj
                    refine ca_iconst h dX12_passTick_114 ik_0 ?_
                    refine ca_istore_n h dX12_passTick_115 rfl ?_
                    have loop_116 : ∀ (jj j : Nat), j + jj = k_mc n → ∀ (x2 : Int32) (e2 : x2 = nI j) (w : Nat → Int32) (hNj : r_N (kf s_dr j n3) w) (hPj : r_P (kf s_dr j n3) (k_mc n)) (mm : ch_M) (em : mm = r_wr μ w), ch_W X E 3 S mm 0 0 116 [(0, .ref (S.1 16 22 0)), (1, .int (nI (k_mc n))), (2, .int x2)] [] := by
                      intro jj
                      induction jj with
                      | zero =>
                        intro j hn x2 e2 w hNj hPj mm em
                        have hn : j = k_mc n := by omega
                        subst e2 em
                        obtain ⟨nj, hnj⟩ : ∃ z, z = kf s_dr j n3 := ⟨_, rfl⟩
                        rw [← hnj] at hNj
                        have e0j : nj 0 = n 0 := by rw [hnj]; exact (kf_0 s_dr_0 _ n3).trans z3
                        have emm : k_mc nj = k_mc n := r_mc0 e0j
                        have ecc : k_cc nj = k_cc n := r_cc0 e0j
                        rw [← hnj] at hPj
                        refine ca_iload_n h dX12_passTick_116 rfl ?_
                        refine ca_iload_n h dX12_passTick_117 rfl ?_
                        refine ca_icmp_ge (tgt := 140) h dX12_passTick_118 (by decide) (fun c_118 => ?_) (fun c_118 => ?_)
                        ·
                          obtain ⟨n4, en4⟩ : ∃ z, z = kf s_dr (k_mc n) n3 := ⟨_, rfl⟩
                          have hN4 : r_N n4 w := by rw [en4, ← hn, ← hnj]; exact hNj
                          have z4 : n4 0 = n 0 := by rw [en4]; exact (kf_0 s_dr_0 _ n3).trans z3
                          clear hNj
                          refine ca_iconst h dX12_passTick_140 ik_0 ?_
                          refine ca_istore_n h dX12_passTick_141 rfl ?_
                          have loop_142 : ∀ (jj j : Nat), j + jj = k_cc n → ∀ (x2 : Int32) (e2 : x2 = nI j) (w : Nat → Int32) (hNj : r_N (kf s_sv j n4) w) (mm : ch_M) (em : mm = r_wr μ w), ch_W X E 3 S mm 0 0 142 [(0, .ref (S.1 16 22 0)), (1, .int (nI (k_mc n))), (2, .int x2)] [] := by
                            intro jj
                            induction jj with
                            | zero =>
                              intro j hn x2 e2 w hNj mm em
                              have hn : j = k_cc n := by omega
                              subst e2 em
                              obtain ⟨nj, hnj⟩ : ∃ z, z = kf s_sv j n4 := ⟨_, rfl⟩
                              rw [← hnj] at hNj
                              have e0j : nj 0 = n 0 := by rw [hnj]; exact (kf_0 (fun c n => k_svL_0 (nI c) 12 n) _ n4).trans z4
                              have emm : k_mc nj = k_mc n := r_mc0 e0j
                              have ecc : k_cc nj = k_cc n := r_cc0 e0j
                              refine ca_iload_n h dX12_passTick_142 rfl ?_
                              refine ca_aload_nr h dX12_passTick_143 rfl ?_
                              refine gs_X12_9 h hs ⟨rfl, rfl⟩ dX12_passTick_144 ?_
                              refine ca_iconst h dX12_passTick_147 ik_0 ?_
                              refine ca_iald h rfl (hs.1 _ _ _ ⟨rfl, rfl⟩) (vp_in_nI (n := 0) (N := 1302) (by decide) (by decide)) dX12_passTick_148 ?_
                              refine ca_icmp_ge (tgt := 163) h dX12_passTick_149 (by decide) (fun c_149 => ?_) (fun c_149 => ?_)
                              ·
                                obtain ⟨n5, en5⟩ : ∃ z, z = kf s_sv (k_cc n) n4 := ⟨_, rfl⟩
                                have hN5 : r_N n5 w := by rw [en5, ← hn, ← hnj]; exact hNj
                                have z5 : n5 0 = n 0 := by rw [en5]; exact (kf_0 (fun c n => k_svL_0 (nI c) 12 n) _ n4).trans z4
                                clear hNj
                                refine ca_iconst h dX12_passTick_163 ik_0 ?_
                                refine ca_istore_n h dX12_passTick_164 rfl ?_
                                have loop_165 : ∀ (jj j : Nat), j + jj = k_mc n → ∀ (x2 : Int32) (e2 : x2 = nI j) (a : Nat → Int32) (b : Nat → Int32) (x : Int32) (w : Nat → Int32) (hNj : r_N (kf s_dc j (n5, q)).1 w) (mm : ch_M) (em : mm = r_wq μ a b x w), ch_W X E 3 S mm 0 0 165 [(0, .ref (S.1 16 22 0)), (1, .int (nI (k_mc n))), (2, .int x2)] [] := by
                                  intro jj
                                  induction jj with
                                  | zero =>
                                    intro j hn x2 e2 a b x w hNj mm em
                                    have hn : j = k_mc n := by omega
                                    subst e2 em
                                    obtain ⟨nj, hnj⟩ : ∃ z, z = (kf s_dc j (n5, q)).1 := ⟨_, rfl⟩
                                    rw [← hnj] at hNj
                                    refine ca_iload_n h dX12_passTick_165 rfl ?_
                                    refine ca_iload_n h dX12_passTick_166 rfl ?_
                                    refine ca_icmp_ge (tgt := 197) h dX12_passTick_167 (by decide) (fun c_167 => ?_) (fun c_167 => ?_)
                                    ·
                                      obtain ⟨n6, en6⟩ : ∃ z, z = (kf s_dc (k_mc n) (n5, q)).1 := ⟨_, rfl⟩
                                      have hN6 : r_N n6 w := by rw [en6, ← hn, ← hnj]; exact hNj
                                      have z6 : n6 0 = n 0 := by rw [en6]; exact (s_dc_0 _ _).trans z5
                                      clear hNj
                                      refine ca_iconst h dX12_passTick_197 ik_0 ?_
                                      refine ca_istore_n h dX12_passTick_198 rfl ?_
                                      have loop_199 : ∀ (jj j : Nat), j + jj = k_cc n → ∀ (x2 : Int32) (e2 : x2 = nI j) (w : Nat → Int32) (hNj : r_N (kf s_cg j n6) w) (mm : ch_M) (em : mm = r_wq μ a b x w), ch_W X E 3 S mm 0 0 199 [(0, .ref (S.1 16 22 0)), (1, .int (nI (k_mc n))), (2, .int x2)] [] := by
                                        intro jj
                                        induction jj with
                                        | zero =>
                                          intro j hn x2 e2 w hNj mm em
                                          have hn : j = k_cc n := by omega
                                          subst e2 em
                                          obtain ⟨nj, hnj⟩ : ∃ z, z = kf s_cg j n6 := ⟨_, rfl⟩
                                          rw [← hnj] at hNj
                                          have e0j : nj 0 = n 0 := by rw [hnj]; exact (kf_0 s_cg_0 _ n6).trans z6
                                          have emm : k_mc nj = k_mc n := r_mc0 e0j
                                          have ecc : k_cc nj = k_cc n := r_cc0 e0j
                                          refine ca_iload_n h dX12_passTick_199 rfl ?_
                                          refine ca_aload_nr h dX12_passTick_200 rfl ?_
                                          refine gs_X12_9 h hs ⟨rfl, rfl⟩ dX12_passTick_201 ?_
                                          refine ca_iconst h dX12_passTick_204 ik_0 ?_
                                          refine ca_iald h rfl (hs.1 _ _ _ ⟨rfl, rfl⟩) (vp_in_nI (n := 0) (N := 1302) (by decide) (by decide)) dX12_passTick_205 ?_
                                          refine ca_icmp_ge (tgt := 246) h dX12_passTick_206 (by decide) (fun c_206 => ?_) (fun c_206 => ?_)
                                          ·
                                            obtain ⟨n7, en7⟩ : ∃ z, z = kf s_cg (k_cc n) n6 := ⟨_, rfl⟩
                                            have hN7 : r_N n7 w := by rw [en7, ← hn, ← hnj]; exact hNj
                                            have z7 : n7 0 = n 0 := by rw [en7]; exact (kf_0 s_cg_0 _ n6).trans z6
                                            clear hNj
                                            refine ca_iconst h dX12_passTick_246 ik_0 ?_
                                            refine ca_istore_n h dX12_passTick_247 rfl ?_
                                            have loop_248 : ∀ (jj j : Nat), j + jj = k_mc n → ∀ (x2 : Int32) (e2 : x2 = nI j) (w : Nat → Int32) (hNj : r_N (kf s_ex j n7) w) (mm : ch_M) (em : mm = r_wq μ a b x w), ch_W X E 3 S mm 0 0 248 [(0, .ref (S.1 16 22 0)), (1, .int (nI (k_mc n))), (2, .int x2)] [] := by
                                              intro jj
                                              induction jj with
                                              | zero =>
                                                intro j hn x2 e2 w hNj mm em
                                                have hn : j = k_mc n := by omega
                                                subst e2 em
                                                obtain ⟨nj, hnj⟩ : ∃ z, z = kf s_ex j n7 := ⟨_, rfl⟩
                                                rw [← hnj] at hNj
                                                have e0j : nj 0 = n 0 := by rw [hnj]; exact (kf_0 s_ex_0 _ n7).trans z7
                                                have emm : k_mc nj = k_mc n := r_mc0 e0j
                                                have ecc : k_cc nj = k_cc n := r_cc0 e0j
                                                refine ca_iload_n h dX12_passTick_248 rfl ?_
                                                refine ca_iload_n h dX12_passTick_249 rfl ?_
                                                refine ca_icmp_ge (tgt := 264) h dX12_passTick_250 (by decide) (fun c_250 => ?_) (fun c_250 => ?_)
                                                ·
                                                  obtain ⟨n8, en8⟩ : ∃ z, z = kf s_ex (k_mc n) n7 := ⟨_, rfl⟩
                                                  have hN8 : r_N n8 w := by rw [en8, ← hn, ← hnj]; exact hNj
                                                  have z8 : n8 0 = n 0 := by rw [en8]; exact (kf_0 s_ex_0 _ n7).trans z7
                                                  clear hNj
                                                  refine ca_aload_nr h dX12_passTick_264 rfl ?_
                                                  refine gs_X12_9 h hs ⟨rfl, rfl⟩ dX12_passTick_265 ?_
                                                  refine ca_iconst h dX12_passTick_268 ik_3 ?_
                                                  refine ca_dup2 h dX12_passTick_269 rfl rfl ?_
                                                  refine ca_iald h rfl (hs.1 _ _ _ ⟨rfl, rfl⟩) (vp_in_nI (n := 3) (N := 1302) (by decide) (by decide)) dX12_passTick_270 ?_
                                                  refine ca_iconst h dX12_passTick_271 ik_1 ?_
                                                  refine ca_iadd h dX12_passTick_272 ?_
                                                  refine ca_iast h rfl (hs.1 _ _ _ ⟨rfl, rfl⟩) (vp_in_nI (n := 3) (N := 1302) (by decide) (by decide)) dX12_passTick_273 ?_
                                                  refine ca_mem (μ'' := r_wq μ a b x (up w 3 (w 3 + 1))) (by rw [ch_st_nw, r_wq_put, cn3, r_wq_at]) ?_
                                                  refine ca_vreturn h hR dX12_passTick_274 ?_
                                                  have eT1 : k_t1 n = n5 := by
                                                    unfold k_t1
                                                    dsimp only
                                                    rw [← en1, r_mc0 z1, ← en2, r_mc0 z2, ← en3, r_mc0 z3, ← en4, r_cc0 z4, ← en5]
                                                  have eT : (k_tick (n, q)).1 = nw n8 0 0 3 (n8 0 0 3 + 1) := by
                                                    unfold k_tick k_t3
                                                    dsimp only
                                                    rw [eT1, r_mc0 z5, ← en6, r_cc0 z6, ← en7, r_mc0 z7, ← en8]
                                                  have e83 : n8 0 0 3 = n 0 0 3 := by rw [z8]
                                                  refine ⟨rfl, rfl, a, b, x, _, rfl, ?_⟩
                                                  rw [eT, hN8.1 3 (by decide)]
                                                  exact r_N_clk hN8 (by rw [e83]; exact r_clk_nn hN.2.1.2.1.1 hN.2.1.2.1.2.1) (by rw [e83]; exact hck)
                                                · exact absurd c_250 (nI_nlt (by omega) (by omega))
                                              | succ jj ih_248 =>
                                                intro j hn x2 e2 w hNj mm em
                                                have hn1 : j < k_mc n := by omega
                                                subst e2 em
                                                obtain ⟨nj, hnj⟩ : ∃ z, z = kf s_ex j n7 := ⟨_, rfl⟩
                                                rw [← hnj] at hNj
                                                have e0j : nj 0 = n 0 := by rw [hnj]; exact (kf_0 s_ex_0 _ n7).trans z7
                                                have emm : k_mc nj = k_mc n := r_mc0 e0j
                                                have ecc : k_cc nj = k_cc n := r_cc0 e0j
                                                refine ca_iload_n h dX12_passTick_248 rfl ?_
                                                refine ca_iload_n h dX12_passTick_249 rfl ?_
                                                refine ca_icmp_ge (tgt := 264) h dX12_passTick_250 (by decide) (fun c_250 => ?_) (fun c_250 => ?_)
                                                · exact absurd (nI_lt hn1 (by omega)) c_250
                                                ·
                                                  refine ca_aload_nr h dX12_passTick_253 rfl ?_
                                                  refine ca_iload_n h dX12_passTick_254 rfl ?_
                                                  refine ca_vXv h hG ml_X12_247 (c_X12_expire hs (n := nj) (by rw [r_wq_at]; exact hNj) (by rw [emm]; exact hn1)) (ci := 12) rfl rfl rfl (hs.1 _ _ _ ⟨rfl, rfl⟩) rfl rfl rfl rfl ⟨Nat.le_refl _, Nat.le_refl _⟩ rfl dX12_passTick_255 ?_
                                                  intro μ9 hμ9
                                                  obtain ⟨w2, rfl, hNw⟩ := hμ9
                                                  rw [r_wr_wq]
                                                  refine ca_iinc h dX12_passTick_258 rfl ik_1 rfl ?_
                                                  refine ca_goto (tgt := 248) h dX12_passTick_261 (by decide) ?_
                                                  refine ca_pick [1, 2, 0] rfl ?_
                                                  exact ih_248 (j + 1) (by omega) _ (nI_1 j) w2 (by rw [kf_s, ← hnj]; exact hNw) _ rfl
                                            refine ca_pick [1, 2, 0] rfl ?_
                                            exact loop_248 _ 0 (Nat.zero_add _) _ rfl _ hN7 _ rfl
                                          · exact absurd c_206 (by rw [r_wq_at]; exact lt_no (show k_cc n = Int32.toNatClampNeg (w (Int32.toNatClampNeg 0)) from ecc.symm.trans (r_cc hNj)) hn)
                                        | succ jj ih_199 =>
                                          intro j hn x2 e2 w hNj mm em
                                          have hn1 : j < k_cc n := by omega
                                          subst e2 em
                                          obtain ⟨nj, hnj⟩ : ∃ z, z = kf s_cg j n6 := ⟨_, rfl⟩
                                          rw [← hnj] at hNj
                                          have e0j : nj 0 = n 0 := by rw [hnj]; exact (kf_0 s_cg_0 _ n6).trans z6
                                          have emm : k_mc nj = k_mc n := r_mc0 e0j
                                          have ecc : k_cc nj = k_cc n := r_cc0 e0j
                                          have hj8 : j < 8 := by omega
                                          refine ca_iload_n h dX12_passTick_199 rfl ?_
                                          refine ca_aload_nr h dX12_passTick_200 rfl ?_
                                          refine gs_X12_9 h hs ⟨rfl, rfl⟩ dX12_passTick_201 ?_
                                          refine ca_iconst h dX12_passTick_204 ik_0 ?_
                                          refine ca_iald h rfl (hs.1 _ _ _ ⟨rfl, rfl⟩) (vp_in_nI (n := 0) (N := 1302) (by decide) (by decide)) dX12_passTick_205 ?_
                                          refine ca_icmp_ge (tgt := 246) h dX12_passTick_206 (by decide) (fun c_206 => ?_) (fun c_206 => ?_)
                                          · exact absurd (by rw [r_wq_at]; exact lt_yes (show k_cc n = Int32.toNatClampNeg (w (Int32.toNatClampNeg 0)) from ecc.symm.trans (r_cc hNj)) hn1) c_206
                                          ·
                                            refine ca_aload_nr h dX12_passTick_209 rfl ?_
                                            refine gs_X12_9 h hs ⟨rfl, rfl⟩ dX12_passTick_210 ?_
                                            refine ca_bipush h dX12_passTick_213 bk_18 ?_
                                            refine ca_bipush h dX12_passTick_215 bk_9 ?_
                                            refine ca_iload_n h dX12_passTick_217 rfl ?_
                                            refine ca_imul h dX12_passTick_218 ?_
                                            refine ca_iadd h dX12_passTick_219 ?_
                                            refine ca_bipush h dX12_passTick_220 bk_8 ?_
                                            refine ca_iadd h dX12_passTick_222 ?_
                                            refine ca_top (show _ = nI (18 + 9 * j + 8) by rw [show (8 : Int32) = nI 8 from rfl, ix_c]) ?_
                                            refine ca_dup2 h dX12_passTick_223 rfl rfl ?_
                                            refine ca_iald h rfl (hs.1 _ _ _ ⟨rfl, rfl⟩) (vp_in_nI (by omega) (by decide)) dX12_passTick_224 ?_
                                            refine ca_top (show _ = nj 1 j 8 by rw [r_wq_at, nI_clamp (by omega), r_cf hNj (show j < k_cc nj by rw [ecc]; exact hn1) (f := 8) (by decide)]) ?_
                                            refine ca_aload_nr h dX12_passTick_225 rfl ?_
                                            refine ca_iload_n h dX12_passTick_226 rfl ?_
                                            refine ca_vi h hG ml_X12_167 (c_X12_hasFreeChannel hs (n := nj) (by rw [r_wq_at]; exact hNj) (by rw [ecc]; exact hn1)) (ci := 12) rfl rfl rfl (hs.1 _ _ _ ⟨rfl, rfl⟩) rfl rfl rfl rfl ⟨Nat.le_refl _, Nat.le_refl _⟩ rfl dX12_passTick_227 ?_
                                            refine ca_if_eq (tgt := 237) h dX12_passTick_230 (by decide) (fun c_230 => ?_) (fun c_230 => ?_)
                                            ·
                                              refine ca_iconst h dX12_passTick_237 ik_1 ?_
                                              refine ca_iadd h dX12_passTick_238 ?_
                                              refine ca_iast h rfl (hs.1 _ _ _ ⟨rfl, rfl⟩) (vp_in_nI (by omega) (by decide)) dX12_passTick_239 ?_
                                              refine ca_mem (μ'' := r_wq μ a b x (up w (18 + 9 * j + 8) (nj 1 j 8 + 1))) (by rw [ch_st_nw, r_wq_put, nI_clamp (by omega)]) ?_
                                              refine ca_iinc h dX12_passTick_240 rfl ik_1 rfl ?_
                                              refine ca_goto (tgt := 199) h dX12_passTick_243 (by decide) ?_
                                              refine ca_pick [1, 2, 0] rfl ?_
                                              have e9 : kf s_cg (j + 1) n6 = nw nj 1 j 8 (nj 1 j 8 + 1) := by rw [kf_s, ← hnj]; unfold s_cg; rw [if_neg (fun z => bI_n0.mpr z c_230)]
                                              exact ih_199 (j + 1) (by omega) _ (nI_1 j) _ (by rw [e9]; exact r_N_cg hNj (by rw [ecc]; exact hn1)) _ rfl
                                            ·
                                              refine ca_iconst h dX12_passTick_233 ik_0 ?_
                                              refine ca_goto (tgt := 238) h dX12_passTick_234 (by decide) ?_
                                              refine ca_iadd h dX12_passTick_238 ?_
                                              refine ca_iast h rfl (hs.1 _ _ _ ⟨rfl, rfl⟩) (vp_in_nI (by omega) (by decide)) dX12_passTick_239 ?_
                                              refine ca_mem (μ'' := r_wq μ a b x (up w (18 + 9 * j + 8) (nj 1 j 8 + 0))) (by rw [ch_st_nw, r_wq_put, nI_clamp (by omega)]) ?_
                                              refine ca_iinc h dX12_passTick_240 rfl ik_1 rfl ?_
                                              refine ca_goto (tgt := 199) h dX12_passTick_243 (by decide) ?_
                                              refine ca_pick [1, 2, 0] rfl ?_
                                              have e9 : kf s_cg (j + 1) n6 = nj := by rw [kf_s, ← hnj]; unfold s_cg; rw [if_pos (bI_n0.mp c_230)]
                                              exact ih_199 (j + 1) (by omega) _ (nI_1 j) w (by rw [e9]; exact hNj) _ (by rw [Int32.add_zero, ← r_cf hNj (show j < k_cc nj by rw [ecc]; exact hn1) (f := 8) (by decide), up_id])
                                      refine ca_pick [1, 2, 0] rfl ?_
                                      exact loop_199 _ 0 (Nat.zero_add _) _ rfl _ hN6 _ rfl
                                    · exact absurd c_167 (nI_nlt (by omega) (by omega))
                                  | succ jj ih_165 =>
                                    intro j hn x2 e2 a b x w hNj mm em
                                    have hn1 : j < k_mc n := by omega
                                    subst e2 em
                                    obtain ⟨sj, hsj⟩ : ∃ z, z = kf s_dc j (n5, q) := ⟨_, rfl⟩
                                    rw [← hsj] at hNj
                                    obtain ⟨nj, hnj⟩ : ∃ z, z = sj.1 := ⟨_, rfl⟩
                                    have e0j : nj 0 = n 0 := by rw [hnj, hsj]; exact (s_dc_0 _ _).trans z5
                                    have emm : k_mc sj.1 = k_mc n := by rw [← hnj]; exact r_mc0 e0j
                                    refine ca_iload_n h dX12_passTick_165 rfl ?_
                                    refine ca_iload_n h dX12_passTick_166 rfl ?_
                                    refine ca_icmp_ge (tgt := 197) h dX12_passTick_167 (by decide) (fun c_167 => ?_) (fun c_167 => ?_)
                                    · exact absurd (nI_lt hn1 (by omega)) c_167
                                    ·
                                      refine ca_aload_nr h dX12_passTick_170 rfl ?_
                                      refine ca_iload_n h dX12_passTick_171 rfl ?_
                                      refine ca_vi h hG ml_X12_135 (c_X12_talks hs (by omega)) (ci := 12) rfl rfl rfl (hs.1 _ _ _ ⟨rfl, rfl⟩) rfl rfl rfl rfl ⟨Nat.le_refl _, Nat.le_refl _⟩ rfl dX12_passTick_172 ?_
                                      refine ca_if_eq (tgt := 191) h dX12_passTick_175 (by decide) (fun c_175 => ?_) (fun c_175 => ?_)
                                      ·
                                        refine ca_iinc h dX12_passTick_191 rfl ik_1 rfl ?_
                                        refine ca_goto (tgt := 165) h dX12_passTick_194 (by decide) ?_
                                        refine ca_pick [1, 2, 0] rfl ?_
                                        have e9 : kf s_dc (j + 1) (n5, q) = sj := by rw [kf_s, ← hsj]; unfold s_dc; rw [if_neg (fun z => absurd z.1 (by have z := of_decide_eq_false (bI_0.mp c_175); rw [r_wq_at, r_f hNj (show j < k_mc sj.1 by rw [emm]; exact hn1) (f := 4) (by decide)] at z; exact z))]
                                        exact ih_165 (j + 1) (by omega) _ (nI_1 j) a b x w (by rw [e9]; exact hNj) _ rfl
                                      ·
                                        refine ca_aload_nr h dX12_passTick_178 rfl ?_
                                        refine ca_iload_n h dX12_passTick_179 rfl ?_
                                        refine ca_vi h hG ml_X12_226 (c_X12_hasRequest hs (by omega)) (ci := 12) rfl rfl rfl (hs.1 _ _ _ ⟨rfl, rfl⟩) rfl rfl rfl rfl ⟨Nat.le_refl _, Nat.le_refl _⟩ rfl dX12_passTick_180 ?_
                                        refine ca_if_ne (tgt := 191) h dX12_passTick_183 (by decide) (fun c_183 => ?_) (fun c_183 => ?_)
                                        ·
                                          refine ca_iinc h dX12_passTick_191 rfl ik_1 rfl ?_
                                          refine ca_goto (tgt := 165) h dX12_passTick_194 (by decide) ?_
                                          refine ca_pick [1, 2, 0] rfl ?_
                                          have e9 : kf s_dc (j + 1) (n5, q) = sj := by rw [kf_s, ← hsj]; unfold s_dc; rw [if_neg (fun z => absurd z.2 (by have z := of_decide_eq_true (bI_n0.mp c_183); rw [r_wq_at, r_8 hNj (show j < k_mc sj.1 by rw [emm]; exact hn1)] at z; exact z))]
                                          exact ih_165 (j + 1) (by omega) _ (nI_1 j) a b x w (by rw [e9]; exact hNj) _ rfl
                                        ·
                                          refine ca_aload_nr h dX12_passTick_186 rfl ?_
                                          refine ca_iload_n h dX12_passTick_187 rfl ?_
                                          refine ca_vXv h hG ml_X12_244 (c_X12_consider hs (n := sj.1) (q := sj.2) (by rw [r_wq_at]; exact hNj) (by rw [emm]; exact hn1) (by have z := of_decide_eq_true (bI_n0.mp c_175); rw [r_wq_at, r_f hNj (show j < k_mc sj.1 by rw [emm]; exact hn1) (f := 4) (by decide)] at z; exact z)) (ci := 12) rfl rfl rfl (hs.1 _ _ _ ⟨rfl, rfl⟩) rfl rfl rfl rfl ⟨Nat.le_refl _, Nat.le_refl _⟩ rfl dX12_passTick_188 ?_
                                          intro μ9 hμ9
                                          obtain ⟨a2, b2, x2, w2, rfl, hNw⟩ := hμ9
                                          refine ca_iinc h dX12_passTick_191 rfl ik_1 rfl ?_
                                          refine ca_goto (tgt := 165) h dX12_passTick_194 (by decide) ?_
                                          refine ca_pick [1, 2, 0] rfl ?_
                                          have e9 : kf s_dc (j + 1) (n5, q) = k_ch sj.1 sj.2 j := by rw [kf_s, ← hsj]; unfold s_dc; rw [if_pos ⟨(by have z := of_decide_eq_true (bI_n0.mp c_175); rw [r_wq_at, r_f hNj (show j < k_mc sj.1 by rw [emm]; exact hn1) (f := 4) (by decide)] at z; exact z), (by have z := of_decide_eq_false (bI_0.mp c_183); rw [r_wq_at, r_8 hNj (show j < k_mc sj.1 by rw [emm]; exact hn1)] at z; exact Classical.not_not.mp z)⟩]
                                          exact ih_165 (j + 1) (by omega) _ (nI_1 j) a2 b2 x2 w2 (by rw [e9]; exact hNw) _ (by rw [r_wq_wq])
                                refine ca_pick [1, 2, 0] rfl ?_
                                exact loop_165 _ 0 (Nat.zero_add _) _ rfl _ _ _ _ hN5 _ (r_wq_wr _ _)
                              · exact absurd c_149 (by rw [r_wr_at]; exact lt_no (show k_cc n = Int32.toNatClampNeg (w (Int32.toNatClampNeg 0)) from ecc.symm.trans (r_cc hNj)) hn)
                            | succ jj ih_142 =>
                              intro j hn x2 e2 w hNj mm em
                              have hn1 : j < k_cc n := by omega
                              subst e2 em
                              obtain ⟨nj, hnj⟩ : ∃ z, z = kf s_sv j n4 := ⟨_, rfl⟩
                              rw [← hnj] at hNj
                              have e0j : nj 0 = n 0 := by rw [hnj]; exact (kf_0 (fun c n => k_svL_0 (nI c) 12 n) _ n4).trans z4
                              have emm : k_mc nj = k_mc n := r_mc0 e0j
                              have ecc : k_cc nj = k_cc n := r_cc0 e0j
                              refine ca_iload_n h dX12_passTick_142 rfl ?_
                              refine ca_aload_nr h dX12_passTick_143 rfl ?_
                              refine gs_X12_9 h hs ⟨rfl, rfl⟩ dX12_passTick_144 ?_
                              refine ca_iconst h dX12_passTick_147 ik_0 ?_
                              refine ca_iald h rfl (hs.1 _ _ _ ⟨rfl, rfl⟩) (vp_in_nI (n := 0) (N := 1302) (by decide) (by decide)) dX12_passTick_148 ?_
                              refine ca_icmp_ge (tgt := 163) h dX12_passTick_149 (by decide) (fun c_149 => ?_) (fun c_149 => ?_)
                              · exact absurd (by rw [r_wr_at]; exact lt_yes (show k_cc n = Int32.toNatClampNeg (w (Int32.toNatClampNeg 0)) from ecc.symm.trans (r_cc hNj)) hn1) c_149
                              ·
                                refine ca_aload_nr h dX12_passTick_152 rfl ?_
                                refine ca_iload_n h dX12_passTick_153 rfl ?_
                                refine ca_vXv h hG ml_X12_241 (c_X12_serve hs (n := nj) (by rw [r_wr_at]; exact hNj) (by rw [ecc]; exact hn1)) (ci := 12) rfl rfl rfl (hs.1 _ _ _ ⟨rfl, rfl⟩) rfl rfl rfl rfl ⟨Nat.le_refl _, Nat.le_refl _⟩ rfl dX12_passTick_154 ?_
                                intro μ9 hμ9
                                obtain ⟨w2, rfl, hNw⟩ := hμ9
                                refine ca_iinc h dX12_passTick_157 rfl ik_1 rfl ?_
                                refine ca_goto (tgt := 142) h dX12_passTick_160 (by decide) ?_
                                refine ca_pick [1, 2, 0] rfl ?_
                                exact ih_142 (j + 1) (by omega) _ (nI_1 j) w2 (by rw [kf_s, ← hnj]; exact hNw) _ (by rw [r_wr_wr])
                          refine ca_pick [1, 2, 0] rfl ?_
                          exact loop_142 _ 0 (Nat.zero_add _) _ rfl _ hN4 _ rfl
                        · exact absurd c_118 (nI_nlt (by omega) (by omega))
                      | succ jj ih_116 =>
                        intro j hn x2 e2 w hNj hPj mm em
                        have hn1 : j < k_mc n := by omega
                        subst e2 em
                        obtain ⟨nj, hnj⟩ : ∃ z, z = kf s_dr j n3 := ⟨_, rfl⟩
                        rw [← hnj] at hNj
                        have e0j : nj 0 = n 0 := by rw [hnj]; exact (kf_0 s_dr_0 _ n3).trans z3
                        have emm : k_mc nj = k_mc n := r_mc0 e0j
                        have ecc : k_cc nj = k_cc n := r_cc0 e0j
                        rw [← hnj] at hPj
                        refine ca_iload_n h dX12_passTick_116 rfl ?_
                        refine ca_iload_n h dX12_passTick_117 rfl ?_
                        refine ca_icmp_ge (tgt := 140) h dX12_passTick_118 (by decide) (fun c_118 => ?_) (fun c_118 => ?_)
                        · exact absurd (nI_lt hn1 (by omega)) c_118
                        ·
                          refine ca_aload_nr h dX12_passTick_121 rfl ?_
                          refine ca_iload_n h dX12_passTick_122 rfl ?_
                          refine ca_vi h hG ml_X12_135 (c_X12_talks hs (by omega)) (ci := 12) rfl rfl rfl (hs.1 _ _ _ ⟨rfl, rfl⟩) rfl rfl rfl rfl ⟨Nat.le_refl _, Nat.le_refl _⟩ rfl dX12_passTick_123 ?_
                          refine ca_if_eq (tgt := 134) h dX12_passTick_126 (by decide) (fun c_126 => ?_) (fun c_126 => ?_)
                          ·
                            refine ca_iinc h dX12_passTick_134 rfl ik_1 rfl ?_
                            refine ca_goto (tgt := 116) h dX12_passTick_137 (by decide) ?_
                            refine ca_pick [1, 2, 0] rfl ?_
                            have e9 : kf s_dr (j + 1) n3 = nj := by rw [kf_s, ← hnj]; unfold s_dr; rw [if_neg (by have z := of_decide_eq_false (bI_0.mp c_126); rw [r_wr_at, r_f hNj (show j < k_mc nj by rw [emm]; exact hn1) (f := 4) (by decide)] at z; exact z)]
                            exact ih_116 (j + 1) (by omega) _ (nI_1 j) w (by rw [e9]; exact hNj) (by rw [kf_s, ← hnj]; exact r_P_dr hPj) _ rfl
                          ·
                            refine ca_aload_nr h dX12_passTick_129 rfl ?_
                            refine ca_iload_n h dX12_passTick_130 rfl ?_
                            refine ca_vXv h hG ml_X12_238 (c_X12_checkDrop hs (n := nj) (by rw [r_wr_at]; exact hNj) (by rw [emm]; exact hn1) (by have z := of_decide_eq_true (bI_n0.mp c_126); rw [r_wr_at, r_f hNj (show j < k_mc nj by rw [emm]; exact hn1) (f := 4) (by decide)] at z; exact z) (fun s h5 hs8 => hPj j hn1 (by have z := of_decide_eq_true (bI_n0.mp c_126); rw [r_wr_at, r_f hNj (show j < k_mc nj by rw [emm]; exact hn1) (f := 4) (by decide)] at z; exact z) s h5 hs8)) (ci := 12) rfl rfl rfl (hs.1 _ _ _ ⟨rfl, rfl⟩) rfl rfl rfl rfl ⟨Nat.le_refl _, Nat.le_refl _⟩ rfl dX12_passTick_131 ?_
                            intro μ9 hμ9
                            obtain ⟨w2, rfl, hNw⟩ := hμ9
                            refine ca_iinc h dX12_passTick_134 rfl ik_1 rfl ?_
                            refine ca_goto (tgt := 116) h dX12_passTick_137 (by decide) ?_
                            refine ca_pick [1, 2, 0] rfl ?_
                            have e9 : kf s_dr (j + 1) n3 = k_dr nj j := by rw [kf_s, ← hnj]; unfold s_dr; rw [if_pos (by have z := of_decide_eq_true (bI_n0.mp c_126); rw [r_wr_at, r_f hNj (show j < k_mc nj by rw [emm]; exact hn1) (f := 4) (by decide)] at z; exact z)]
                            exact ih_116 (j + 1) (by omega) _ (nI_1 j) w2 (by rw [e9]; exact hNw) (by rw [kf_s, ← hnj]; exact r_P_dr hPj) _ (by rw [r_wr_wr])
                    refine ca_pick [1, 2, 0] rfl ?_
                    exact loop_116 _ 0 (Nat.zero_add _) _ rfl _ hN3 hP3 _ rfl
                  · exact absurd c_92 (nI_nlt (by omega) (by omega))
                | succ jj ih_90 =>
                  intro j hn x2 e2 w hNj hPj mm em
                  have hn1 : j < k_mc n := by omega
                  subst e2 em
                  obtain ⟨nj, hnj⟩ : ∃ z, z = kf s_fin j n2 := ⟨_, rfl⟩
                  rw [← hnj] at hNj
                  have e0j : nj 0 = n 0 := by rw [hnj]; exact (kf_0 s_fin_0 _ n2).trans z2
                  have emm : k_mc nj = k_mc n := r_mc0 e0j
                  have ecc : k_cc nj = k_cc n := r_cc0 e0j
                  rw [← hnj] at hPj
                  refine ca_iload_n h dX12_passTick_90 rfl ?_
                  refine ca_iload_n h dX12_passTick_91 rfl ?_
                  refine ca_icmp_ge (tgt := 114) h dX12_passTick_92 (by decide) (fun c_92 => ?_) (fun c_92 => ?_)
                  · exact absurd (nI_lt hn1 (by omega)) c_92
                  ·
                    refine ca_aload_nr h dX12_passTick_95 rfl ?_
                    refine ca_iload_n h dX12_passTick_96 rfl ?_
                    refine ca_vi h hG ml_X12_135 (c_X12_talks hs (by omega)) (ci := 12) rfl rfl rfl (hs.1 _ _ _ ⟨rfl, rfl⟩) rfl rfl rfl rfl ⟨Nat.le_refl _, Nat.le_refl _⟩ rfl dX12_passTick_97 ?_
                    refine ca_if_eq (tgt := 108) h dX12_passTick_100 (by decide) (fun c_100 => ?_) (fun c_100 => ?_)
                    ·
                      refine ca_iinc h dX12_passTick_108 rfl ik_1 rfl ?_
                      refine ca_goto (tgt := 90) h dX12_passTick_111 (by decide) ?_
                      refine ca_pick [1, 2, 0] rfl ?_
                      have e9 : kf s_fin (j + 1) n2 = nj := by rw [kf_s, ← hnj]; unfold s_fin; rw [if_neg (by have z := of_decide_eq_false (bI_0.mp c_100); rw [r_wr_at, r_f hNj (show j < k_mc nj by rw [emm]; exact hn1) (f := 4) (by decide)] at z; exact z)]
                      exact ih_90 (j + 1) (by omega) _ (nI_1 j) w (by rw [e9]; exact hNj) (by rw [kf_s, ← hnj]; exact r_P_fin hPj) _ rfl
                    ·
                      refine ca_aload_nr h dX12_passTick_103 rfl ?_
                      refine ca_iload_n h dX12_passTick_104 rfl ?_
                      refine ca_vXv h hG ml_X12_235 (c_X12_finish hs (n := nj) (by rw [r_wr_at]; exact hNj) (by rw [emm]; exact hn1) (by have z := of_decide_eq_true (bI_n0.mp c_100); rw [r_wr_at, r_f hNj (show j < k_mc nj by rw [emm]; exact hn1) (f := 4) (by decide)] at z; exact z)) (ci := 12) rfl rfl rfl (hs.1 _ _ _ ⟨rfl, rfl⟩) rfl rfl rfl rfl ⟨Nat.le_refl _, Nat.le_refl _⟩ rfl dX12_passTick_105 ?_
                      intro μ9 hμ9
                      obtain ⟨w2, rfl, hNw⟩ := hμ9
                      refine ca_iinc h dX12_passTick_108 rfl ik_1 rfl ?_
                      refine ca_goto (tgt := 90) h dX12_passTick_111 (by decide) ?_
                      refine ca_pick [1, 2, 0] rfl ?_
                      have e9 : kf s_fin (j + 1) n2 = k_fin nj j := by rw [kf_s, ← hnj]; unfold s_fin; rw [if_pos (by have z := of_decide_eq_true (bI_n0.mp c_100); rw [r_wr_at, r_f hNj (show j < k_mc nj by rw [emm]; exact hn1) (f := 4) (by decide)] at z; exact z)]
                      exact ih_90 (j + 1) (by omega) _ (nI_1 j) w2 (by rw [e9]; exact hNw) (by rw [kf_s, ← hnj]; exact r_P_fin hPj) _ (by rw [r_wr_wr])
              refine ca_pick [1, 2, 0] rfl ?_
              exact loop_90 _ 0 (Nat.zero_add _) _ rfl _ hN2 hP2 _ rfl
            · exact absurd c_66 (nI_nlt (by omega) (by omega))
          | succ jj ih_64 =>
            intro j hn x2 e2 w hNj hPj mm em
            have hn1 : j < k_mc n := by omega
            subst e2 em
            obtain ⟨nj, hnj⟩ : ∃ z, z = kf s_ms j n1 := ⟨_, rfl⟩
            rw [← hnj] at hNj
            have e0j : nj 0 = n 0 := by rw [hnj]; exact (kf_0 s_ms_0 _ n1).trans z1
            have emm : k_mc nj = k_mc n := r_mc0 e0j
            have ecc : k_cc nj = k_cc n := r_cc0 e0j
            rw [← hnj] at hPj
            have hPn := r_P_ms hNj (show j < k_mc nj by rw [emm]; exact hn1) hPj
            refine ca_iload_n h dX12_passTick_64 rfl ?_
            refine ca_iload_n h dX12_passTick_65 rfl ?_
            refine ca_icmp_ge (tgt := 88) h dX12_passTick_66 (by decide) (fun c_66 => ?_) (fun c_66 => ?_)
            · exact absurd (nI_lt hn1 (by omega)) c_66
            ·
              refine ca_aload_nr h dX12_passTick_69 rfl ?_
              refine ca_iload_n h dX12_passTick_70 rfl ?_
              refine ca_vi h hG ml_X12_135 (c_X12_talks hs (by omega)) (ci := 12) rfl rfl rfl (hs.1 _ _ _ ⟨rfl, rfl⟩) rfl rfl rfl rfl ⟨Nat.le_refl _, Nat.le_refl _⟩ rfl dX12_passTick_71 ?_
              refine ca_if_eq (tgt := 82) h dX12_passTick_74 (by decide) (fun c_74 => ?_) (fun c_74 => ?_)
              ·
                refine ca_iinc h dX12_passTick_82 rfl ik_1 rfl ?_
                refine ca_goto (tgt := 64) h dX12_passTick_85 (by decide) ?_
                refine ca_pick [1, 2, 0] rfl ?_
                have e9 : kf s_ms (j + 1) n1 = nj := by rw [kf_s, ← hnj]; unfold s_ms; rw [if_neg (by have z := of_decide_eq_false (bI_0.mp c_74); rw [r_wr_at, r_f hNj (show j < k_mc nj by rw [emm]; exact hn1) (f := 4) (by decide)] at z; exact z)]
                exact ih_64 (j + 1) (by omega) _ (nI_1 j) w (by rw [e9]; exact hNj) (by rw [kf_s, ← hnj]; exact hPn) _ rfl
              ·
                refine ca_aload_nr h dX12_passTick_77 rfl ?_
                refine ca_iload_n h dX12_passTick_78 rfl ?_
                refine ca_vXv h hG ml_X12_232 (c_X12_measure hs (n := nj) (by rw [r_wr_at]; exact hNj) (by rw [emm]; exact hn1) (by have z := of_decide_eq_true (bI_n0.mp c_74); rw [r_wr_at, r_f hNj (show j < k_mc nj by rw [emm]; exact hn1) (f := 4) (by decide)] at z; exact z)) (ci := 12) rfl rfl rfl (hs.1 _ _ _ ⟨rfl, rfl⟩) rfl rfl rfl rfl ⟨Nat.le_refl _, Nat.le_refl _⟩ rfl dX12_passTick_79 ?_
                intro μ9 hμ9
                obtain ⟨w2, rfl, hNw⟩ := hμ9
                refine ca_iinc h dX12_passTick_82 rfl ik_1 rfl ?_
                refine ca_goto (tgt := 64) h dX12_passTick_85 (by decide) ?_
                refine ca_pick [1, 2, 0] rfl ?_
                have e9 : kf s_ms (j + 1) n1 = k_ms nj j := by rw [kf_s, ← hnj]; unfold s_ms; rw [if_pos (by have z := of_decide_eq_true (bI_n0.mp c_74); rw [r_wr_at, r_f hNj (show j < k_mc nj by rw [emm]; exact hn1) (f := 4) (by decide)] at z; exact z)]
                exact ih_64 (j + 1) (by omega) _ (nI_1 j) w2 (by rw [e9]; exact hNw) (by rw [kf_s, ← hnj]; exact hPn) _ (by rw [r_wr_wr])
        refine ca_pick [1, 2, 0] rfl ?_
        exact loop_64 _ 0 (Nat.zero_add _) _ rfl _ hN1 (fun i hi => absurd hi (Nat.not_lt_zero _)) _ rfl
      · exact absurd c_11 (nI_nlt (by omega) (by omega))
    | succ jj ih_9 =>
      intro j hn x2 e2 w hNj mm em
      have hn1 : j < k_mc n := by omega
      subst e2 em
      obtain ⟨nj, hnj⟩ : ∃ z, z = kf s_mv j n := ⟨_, rfl⟩
      rw [← hnj] at hNj
      have e0j : nj 0 = n 0 := by rw [hnj]; exact kf_0 k_mv_0 _ n
      have emm : k_mc nj = k_mc n := r_mc0 e0j
      have ecc : k_cc nj = k_cc n := r_cc0 e0j
      refine ca_iload_n h dX12_passTick_9 rfl ?_
      refine ca_iload_n h dX12_passTick_10 rfl ?_
      refine ca_icmp_ge (tgt := 62) h dX12_passTick_11 (by decide) (fun c_11 => ?_) (fun c_11 => ?_)
      · exact absurd (nI_lt hn1 (by omega)) c_11
      ·
        have hj12 : j < 12 := by omega
        have hjm : j < k_mc nj := by rw [emm]; exact hn1
        refine ca_aload_nr h dX12_passTick_14 rfl ?_
        refine ca_iload_n h dX12_passTick_15 rfl ?_
        refine ca_iconst h dX12_passTick_16 ik_0 ?_
        refine ca_aload_nr h dX12_passTick_17 rfl ?_
        refine ca_iload_n h dX12_passTick_18 rfl ?_
        refine ca_iconst h dX12_passTick_19 ik_0 ?_
        refine ca_vi h hG ml_X12_77 (c_X12_of hs hj12 (by decide)) (ci := 12) rfl rfl rfl (hs.1 _ _ _ ⟨rfl, rfl⟩) rfl rfl rfl rfl ⟨Nat.le_refl _, Nat.le_refl _⟩ rfl dX12_passTick_20 ?_
        refine ca_aload_nr h dX12_passTick_23 rfl ?_
        refine ca_iload_n h dX12_passTick_24 rfl ?_
        refine ca_iconst h dX12_passTick_25 ik_2 ?_
        refine ca_vi h hG ml_X12_77 (c_X12_of hs hj12 (by decide)) (ci := 12) rfl rfl rfl (hs.1 _ _ _ ⟨rfl, rfl⟩) rfl rfl rfl rfl ⟨Nat.le_refl _, Nat.le_refl _⟩ rfl dX12_passTick_26 ?_
        refine ca_si h hG ms_X12_229 (c_X12_moved) rfl rfl rfl rfl ⟨Nat.le_refl _, Nat.le_refl _⟩ rfl dX12_passTick_29 ?_
        refine ca_vv h hG ml_X12_147 (c_X12_put hs (f := 0) (by omega) (by decide)) (ci := 12) rfl rfl rfl (hs.1 _ _ _ ⟨rfl, rfl⟩) rfl rfl rfl rfl ⟨Nat.le_refl _, Nat.le_refl _⟩ rfl dX12_passTick_32 ?_
        refine ca_aload_nr h dX12_passTick_35 rfl ?_
        refine ca_iload_n h dX12_passTick_36 rfl ?_
        refine ca_mem (μ'' := r_wr μ (up w (210 + 91 * j + 0) (k_max 0 (k_min 999 (nj 3 j 0 + nj 3 j 2))))) (by simp only [r_wr_put, r_wr_at, r_wr_wr]; rw [r_f hNj hjm (f := 0) (by decide), r_f hNj hjm (f := 2) (by decide)]) ?_
        refine ca_iconst h dX12_passTick_37 ik_1 ?_
        refine ca_aload_nr h dX12_passTick_38 rfl ?_
        refine ca_iload_n h dX12_passTick_39 rfl ?_
        refine ca_iconst h dX12_passTick_40 ik_1 ?_
        refine ca_vi h hG ml_X12_77 (c_X12_of hs hj12 (by decide)) (ci := 12) rfl rfl rfl (hs.1 _ _ _ ⟨rfl, rfl⟩) rfl rfl rfl rfl ⟨Nat.le_refl _, Nat.le_refl _⟩ rfl dX12_passTick_41 ?_
        refine ca_aload_nr h dX12_passTick_44 rfl ?_
        refine ca_iload_n h dX12_passTick_45 rfl ?_
        refine ca_iconst h dX12_passTick_46 ik_3 ?_
        refine ca_vi h hG ml_X12_77 (c_X12_of hs hj12 (by decide)) (ci := 12) rfl rfl rfl (hs.1 _ _ _ ⟨rfl, rfl⟩) rfl rfl rfl rfl ⟨Nat.le_refl _, Nat.le_refl _⟩ rfl dX12_passTick_47 ?_
        refine ca_si h hG ms_X12_229 (c_X12_moved) rfl rfl rfl rfl ⟨Nat.le_refl _, Nat.le_refl _⟩ rfl dX12_passTick_50 ?_
        refine ca_vv h hG ml_X12_147 (c_X12_put hs (f := 1) (by omega) (by decide)) (ci := 12) rfl rfl rfl (hs.1 _ _ _ ⟨rfl, rfl⟩) rfl rfl rfl rfl ⟨Nat.le_refl _, Nat.le_refl _⟩ rfl dX12_passTick_53 ?_
        refine ca_iinc h dX12_passTick_56 rfl ik_1 rfl ?_
        refine ca_goto (tgt := 9) h dX12_passTick_59 (by decide) ?_
        refine ca_pick [1, 2, 0] rfl ?_
        have e9 : kf s_mv (j + 1) n = s_mv j nj := by rw [kf_s, ← hnj]
        exact ih_9 (j + 1) (by omega) _ (nI_1 j) _ (by rw [e9]; exact r_N_mv hNj hjm) _ (by simp only [r_wr_put, r_wr_at, r_wr_wr]; rw [up_n (show 210 + 91 * j + 1 ≠ 210 + 91 * j + 0 by omega), up_n (show 210 + 91 * j + 3 ≠ 210 + 91 * j + 0 by omega), r_f hNj hjm (f := 1) (by decide), r_f hNj hjm (f := 3) (by decide)])
  refine ca_pick [2, 1, 0] rfl ?_
  exact loop_9 _ 0 (Nat.zero_add _) _ rfl _ hN _ (r_wr_id μ).symm
