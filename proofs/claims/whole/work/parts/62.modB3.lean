/-! THE REFERENCE'S READING: a text only goes on; a cleared draft -/
def r_mo (q q' : ch_N) : Prop := k_tx q → t_e q' = t_e q ∧ t_s q ≤ t_s q' ∧ k_tx q'
theorem mo_id (q : ch_N) : r_mo q q := fun h => ⟨rfl, Nat.le_refl _, h⟩
theorem mo_tr {q q' q2 : ch_N} (h : r_mo q q') (h2 : r_mo q' q2) : r_mo q q2 := fun hx => by
  obtain ⟨a, b, c⟩ := h hx
  obtain ⟨a2, b2, c2⟩ := h2 c
  exact ⟨a2.trans a, Nat.le_trans b b2, c2⟩
theorem mo_fail (q : ch_N) (c : Int32) : r_mo q (t_fail q c) := fun hx => ⟨by unfold t_e; rw [t_fail_at (by decide)], by unfold t_s; rw [t_fail_at (by decide)]; exact Nat.le_refl _, k_tx_fail hx⟩
theorem t_adv_s {q : ch_N} (hx : k_tx q) (h0 : q 12 0 1 = 0) : t_n q ≤ t_s (t_adv q) := by
  have ea : t_adv q = t_st q (t_ns (q 13 0) (t_e q) (t_n q)) (t_nn (q 13 0) (t_e q) (t_ns (q 13 0) (t_e q) (t_n q))) (t_k (q 13 0) (t_e q) (t_ns (q 13 0) (t_e q) (t_n q))) := by unfold t_adv; rw [if_neg (fun z => z h0)]
  have hns := t_ns_le (b := q 13 0) hx.1.2.2.2
  have h7 := hx.1.2.1
  have e5 : (t_adv q) 12 0 5 = nI (t_ns (q 13 0) (t_e q) (t_n q)) := by rw [ea, t_st_at]; simp
  unfold t_s
  rw [e5, nI_clamp (by omega)]
  exact hns.2
theorem mo_adv (q : ch_N) : r_mo q (t_adv q) := fun hx => by
  refine ⟨t_adv_e q, ?_, k_tx_adv hx⟩
  by_cases h0 : q 12 0 1 = 0
  · exact Nat.le_trans hx.2.2 (t_adv_s hx h0)
  · rw [t_adv_f h0]; exact Nat.le_refl _
theorem mo_q1 (q : ch_N) : r_mo q (r_q1 q) := by unfold r_q1; split; exact mo_id q; exact mo_fail q 1
theorem mo_q2 (q : ch_N) (lo hi : Int32) : r_mo q (r_q2 q lo hi) := by
  unfold r_q2
  split
  · exact mo_q1 q
  · split
    · exact mo_tr (mo_q1 q) (mo_fail _ _)
    · exact mo_q1 q
theorem mo_take (q : ch_N) (lo hi : Int32) : r_mo q (t_take q lo hi).2 := by rw [t_take_2]; exact mo_tr (mo_q2 q lo hi) (mo_adv _)
theorem mo_lf (c f : Nat) (lo hi : Int32) (p : ch_P2) : r_mo p.1 (l_f c f lo hi p).1 := mo_take _ _ _
theorem mo_lh (j : Nat) (lo hi : Int32) (p : ch_P2) : r_mo p.1 (l_h j lo hi p).1 := mo_take _ _ _
theorem mo_cellA (c : Nat) (p : ch_P2) : r_mo p.1 (l_cellA c p).1 := by
  unfold l_cellA
  exact mo_tr (mo_tr (mo_tr (mo_tr (mo_tr (mo_tr (mo_tr (mo_lf _ _ _ _ p) (mo_lf _ _ _ _ _)) (mo_lf _ _ _ _ _)) (mo_lf _ _ _ _ _)) (mo_lf _ _ _ _ _)) (mo_lf _ _ _ _ _)) (mo_lf _ _ _ _ _)) (mo_lf _ _ _ _ _)
theorem mo_cell (q n : ch_N) : r_mo q (l_cell (q, n)).1 := by
  unfold l_cell
  split
  · exact mo_fail q 3
  · dsimp only
    exact mo_tr (mo_adv q) (mo_cellA (k_ix 8 8 (n 0 0 0)) (t_adv q, n))
theorem mo_set (q n : ch_N) : r_mo q (l_set (q, n)).1 := by
  unfold l_set
  exact mo_tr (mo_tr (mo_tr (mo_tr (mo_tr (mo_tr (mo_adv q) (mo_lh 4 1 8 (t_adv q, n))) (mo_lh _ _ _ _)) (mo_lh _ _ _ _)) (mo_lh _ _ _ _)) (mo_lh _ _ _ _)) (mo_lh _ _ _ _)
theorem mo_sn (q : ch_N) (lo hi : Int32) : r_mo q (t_sn q lo hi).2 := by
  unfold t_sn
  split
  · exact mo_id q
  · split
    · exact mo_fail q 2
    · exact mo_id q
theorem mo_rel (q n : ch_N) : r_mo q (l_rel (q, n)).1 := by
  by_cases h : n 0 0 1 < 24
  · rw [l_rel_e h]
    show r_mo q (l_r5 (q, n)).2
    have h1 : r_mo q (l_r1 (q, n)).2 := mo_tr (mo_adv q) (mo_take _ _ _)
    have h2 : r_mo q (l_r2 (q, n)).2 := by rw [l_r2_e]; exact mo_tr (mo_tr h1 (mo_q1 _)) (mo_sn _ _ _)
    have h3 : r_mo q (l_r3 (q, n)) := by rw [l_r3_e]; split; exact mo_tr h2 (mo_fail _ _); exact h2
    have h4 : r_mo q (l_r4 (q, n)) := by rw [l_r4_e]; split; exact h3; exact mo_tr h3 (mo_fail _ _)
    rw [l_r5_e]
    exact mo_tr (mo_tr h4 (mo_adv _)) (mo_take _ _ _)
  · have e : l_rel (q, n) = (t_fail q 3, n) := if_pos h
    rw [e]; exact mo_fail q 3
theorem l_cl_e (q n : ch_N) : l_cl (q, n) = if t_is q 1 = true then l_cell (q, n) else if t_is q 2 = true then l_rel (q, n) else if t_is q 3 = true then l_set (q, n) else (t_fail q 1, n) := rfl
theorem mo_cl (q n : ch_N) : r_mo q (l_cl (q, n)).1 := by
  rw [l_cl_e]
  split
  · exact mo_cell q n
  · split
    · exact mo_rel q n
    · split
      · exact mo_set q n
      · exact mo_fail q 1
theorem mo_exp {q : ch_N} {a : Nat} (hx : k_tx q) (hl : k_len a = 1) (h : (t_exp q a) 12 0 1 = 0) : q 12 0 1 = 0 ∧ t_s q + 1 ≤ t_s (t_exp q a) ∧ t_e (t_exp q a) = t_e q := by
  by_cases g : t_is q a = true
  · have e : t_exp q a = t_adv q := by unfold t_exp; rw [if_pos g]
    obtain ⟨g1, g2, -⟩ := of_decide_eq_true g
    have := t_adv_s hx g1
    rw [e]
    exact ⟨g1, by omega, t_adv_e q⟩
  · have e : t_exp q a = t_fail q 1 := by unfold t_exp; rw [if_neg g]
    rw [e] at h
    exact absurd h (t_fail_ne (by decide))
theorem r_tok0 {q p : ch_N} (hX : r_X1 q p) : r_tok (q 12 0 7) = 0 ↔ ¬ t_s q < t_e q := by
  have hk := hX.2.2.2.2.2.1
  constructor
  · intro h hlt
    have h0 : t_kd (t_at (q 13 0) (t_e q) (t_s q)) = 0 := by
      rcases t_kd4 (t_at (q 13 0) (t_e q) (t_s q)) with z | z | z | z | z
      · exact z
      all_goals (rw [hk] at h; unfold t_k at h; rw [z] at h; exact absurd h (by decide))
    have h1 := (t_kd0 _).mp h0
    unfold t_at at h1
    rw [if_pos hlt] at h1
    obtain ⟨-, b, hb, e⟩ := hX.1.2.2.2 _ hlt
    rw [e] at h1
    exact nI_nm1 (by omega) h1
  · intro h
    rw [hk]
    unfold t_k
    rw [t_at_e _ (by omega)]
    rfl
theorem t_go_e {q p : ch_N} (hX : r_X1 q p) : t_go q = decide (q 12 0 1 = 0 ∧ t_s q < t_e q) := by
  have hx := hX.2.1
  have h7 := hx.1.2.1
  have := hx.1.2.2.2
  have := hx.2.2
  unfold t_go
  rw [hx.2.1, hx.1.1]
  congr 1
  rw [nI_ltI (show t_s q < 2 ^ 31 by omega) (show t_e q < 2 ^ 31 by omega)]
theorem r_clr_s (w : Nat → Int32) (k : Nat) : up (fun i => if i < k then 0 else w i) k 0 = fun i => if i < k + 1 then 0 else w i := by
  funext i
  show (if i = k then 0 else if i < k then 0 else w i) = (if i < k + 1 then 0 else w i)
  by_cases g : i = k
  · rw [if_pos g, if_pos (by omega)]
  · rw [if_neg g]
    by_cases g2 : i < k
    · rw [if_pos g2, if_pos (by omega)]
    · rw [if_neg g2, if_neg (by omega)]
def r_clrW (w : Nat → Int32) : Nat → Int32 := up (up (up (up (up (up (fun i => if i < 1302 then 0 else w i) 4 4) 5 2) 6 5) 7 4) 8 5) 9 3
theorem r_D_clr {n : ch_N} {w : Nat → Int32} (h5 : ∀ i c, i < 13 → c < 8 → ¬ n 5 i c < 0 ∧ Int32.toNatClampNeg (n 5 i c) ≤ 8) : r_D (k_clear n) (r_clrW w) := by
  have e0 : ∀ j, j < 10 → (k_clear n) 0 0 j = r_clrW w j := by
    intro j hj
    unfold k_clear k_dfl r_clrW
    rw [na_k (by decide)]
    unfold k_clrR
    rw [if_neg (by omega)]
    simp only [nw_at, up_ap]
    rcases (show j = 0 ∨ j = 1 ∨ j = 2 ∨ j = 3 ∨ j = 4 ∨ j = 5 ∨ j = 6 ∨ j = 7 ∨ j = 8 ∨ j = 9 by omega) with rfl | rfl | rfl | rfl | rfl | rfl | rfl | rfl | rfl | rfl <;> simp
  have ew : ∀ j, 10 ≤ j → j < 1302 → r_clrW w j = 0 := by
    intro j h1 h2
    unfold r_clrW
    simp only [up_ap]
    rw [if_neg (by omega), if_neg (by omega), if_neg (by omega), if_neg (by omega), if_neg (by omega), if_neg (by omega), if_pos h2]
  have e2 : ∀ i f, i < 64 → f < 4 → (k_clear n) 2 i f = 0 := by
    intro i f hi hf
    unfold k_clear
    rw [na_k (by decide)]
    unfold k_clrR
    rw [if_pos ⟨rfl, hi, hf⟩]
  have e7 : ∀ t, (k_clear n) 7 0 t = 0 := by intro t; unfold k_clear; rw [na_at, if_pos ⟨rfl, rfl⟩]
  have e5 : ∀ i c, (k_clear n) 5 i c = n 5 i c := by
    intro i c
    unfold k_clear k_dfl
    rw [na_k (by decide)]
    unfold k_clrR
    rw [if_neg (by omega)]
    simp only [nw_k (show (5 : Nat) ≠ 0 by decide)]
  have w0 : r_clrW w 0 = 0 := rfl
  have w1 : r_clrW w 1 = 0 := rfl
  have w2 : r_clrW w 2 = 0 := rfl
  have w3 : r_clrW w 3 = 0 := rfl
  have w4 : r_clrW w 4 = 4 := rfl
  have w5 : r_clrW w 5 = 2 := rfl
  have ec : k_cc (k_clear n) = 0 := by unfold k_cc; rw [e0 0 (by decide), w0]; rfl
  have em : k_mc (k_clear n) = 0 := by unfold k_mc; rw [e0 2 (by decide), w2]; rfl
  have hc1 : Int32.toNatClampNeg (r_clrW w 1) = 0 := by rw [w1]; rfl
  generalize k_clear n = n' at *
  generalize r_clrW w = w' at *
  refine ⟨⟨fun j hj => (e0 j hj).symm, ⟨fun t ht => by rw [ew _ (by omega) (by omega), e7], ⟨by rw [e0 3 (by decide), w3]; decide, by rw [e0 3 (by decide), w3]; decide, by rw [e0 5 (by decide), w5]; decide, by rw [e0 0 (by decide), w0]; decide, by rw [e0 2 (by decide), w2]; decide⟩, fun c hc => absurd hc (by rw [ec]; exact Nat.not_lt_zero _)⟩, fun c f hc _ => absurd hc (by rw [ec]; exact Nat.not_lt_zero _), ⟨⟨by rw [w1]; decide, by rw [hc1]; omega⟩, fun r hr => absurd hr (by rw [hc1]; exact Nat.not_lt_zero _), fun r _ hr => absurd hr (by rw [hc1]; exact Nat.not_lt_zero _), fun a b ha hb hz => absurd (e2 _ 0 (by omega) (by decide)) hz, fun a b ha hb _ => ⟨e2 _ 2 (by omega) (by decide), e2 _ 3 (by omega) (by decide)⟩⟩, fun m hm => absurd hm (by rw [em]; exact Nat.not_lt_zero _), by rw [em]; exact Nat.zero_le _, by rw [ec]; exact Nat.zero_le _, by rw [e0 4 (by decide), w4]; decide, by rw [e0 4 (by decide), w4]; decide, by rw [e0 4 (by decide), w4]; decide, fun i c hi hc => by rw [e5]; exact ⟨(h5 i c hi hc).1, (h5 i c hi hc).2, fun z => absurd z (by rw [em]; exact Nat.not_lt_zero _)⟩⟩, em, fun c _ hc => ew _ (by omega) (by omega), fun r _ hr => ⟨ew _ (by omega) (by omega), ew _ (by omega) (by omega)⟩⟩
set_option maxHeartbeats 100000 in
theorem c_X12_clear {l : Launch} {E : ch_E} {S : ch_S} {μ : ch_M} {kd : Nat} (hv : S.2.1 16 kd 0) (hk : ch_kd kd = .inr (0, 0, 1302)) : ch_C E l yX12_clear cX12_clear 2 none 1 0 0 S μ [.ref (S.1 16 kd 0)] (ch_F none S (up μ 16 (na (μ 16) kd 0 (r_clrW (μ 16 kd 0))))) := by
  refine ch_enter rfl rfl ?_
  intro X hl0 h hG hR hnm
  have h : ch_H X E RX12 cX12_clear 2 := h
  show ch_W X E 2 S μ 0 0 0 [(0, .ref (S.1 16 kd 0))] []
  refine ca_iconst h dX12_clear_0 ik_0 ?_
  refine ca_istore_n h dX12_clear_1 rfl ?_
  have loop_2 : ∀ (jj k : Nat), k + jj = 1302 → ∀ (x1 : Int32) (e1 : x1 = nI k) (mm : ch_M) (em : mm = up μ 16 (na (μ 16) kd 0 (fun i => if i < k then 0 else μ 16 kd 0 i))), ch_W X E 2 S mm 0 0 2 [(0, .ref (S.1 16 kd 0)), (1, .int x1)] [] := by
    intro jj
    induction jj with
    | zero =>
      intro k hn x1 e1 mm em
      have hn : k = 1302 := by omega
      subst e1 em
      refine ca_iload_n h dX12_clear_2 rfl ?_
      refine ca_sipush h dX12_clear_3 sk_1302 ?_
      refine ca_icmp_ge (tgt := 19) h dX12_clear_6 (by decide) (fun c_6 => ?_) (fun c_6 => ?_)
      ·
        refine ca_aload_nr h dX12_clear_19 rfl ?_
        refine ca_mem (μ'' := up μ 16 (na (μ 16) kd 0 (fun i => if i < 1302 then 0 else μ 16 kd 0 i))) (by rw [show k = 1302 from hn]) ?_
        refine ca_iconst h dX12_clear_20 ik_4 ?_
        refine ca_iconst h dX12_clear_21 ik_4 ?_
        refine ca_iast h hk hv (vp_in_nI (n := 4) (N := 1302) (by decide) (by decide)) dX12_clear_22 ?_
        refine ca_aload_nr h dX12_clear_23 rfl ?_
        refine ca_iconst h dX12_clear_24 ik_5 ?_
        refine ca_iconst h dX12_clear_25 ik_2 ?_
        refine ca_iast h hk hv (vp_in_nI (n := 5) (N := 1302) (by decide) (by decide)) dX12_clear_26 ?_
        refine ca_aload_nr h dX12_clear_27 rfl ?_
        refine ca_bipush h dX12_clear_28 bk_6 ?_
        refine ca_iconst h dX12_clear_30 ik_5 ?_
        refine ca_iast h hk hv (vp_in_nI (n := 6) (N := 1302) (by decide) (by decide)) dX12_clear_31 ?_
        refine ca_aload_nr h dX12_clear_32 rfl ?_
        refine ca_bipush h dX12_clear_33 bk_7 ?_
        refine ca_iconst h dX12_clear_35 ik_4 ?_
        refine ca_iast h hk hv (vp_in_nI (n := 7) (N := 1302) (by decide) (by decide)) dX12_clear_36 ?_
        refine ca_aload_nr h dX12_clear_37 rfl ?_
        refine ca_bipush h dX12_clear_38 bk_8 ?_
        refine ca_iconst h dX12_clear_40 ik_5 ?_
        refine ca_iast h hk hv (vp_in_nI (n := 8) (N := 1302) (by decide) (by decide)) dX12_clear_41 ?_
        refine ca_aload_nr h dX12_clear_42 rfl ?_
        refine ca_bipush h dX12_clear_43 bk_9 ?_
        refine ca_iconst h dX12_clear_45 ik_3 ?_
        refine ca_iast h hk hv (vp_in_nI (n := 9) (N := 1302) (by decide) (by decide)) dX12_clear_46 ?_
        refine ca_vreturn h hR dX12_clear_47 ?_
        exact ⟨rfl, rfl, by simp only [ch_st_nw, up_s, up_up, na_nw]; rfl⟩
      · exact absurd c_6 (nI_nlt (a := k) (b := 1302) (by omega) (by omega))
    | succ jj ih_2 =>
      intro k hn x1 e1 mm em
      have hn1 : k < 1302 := by omega
      subst e1 em
      refine ca_iload_n h dX12_clear_2 rfl ?_
      refine ca_sipush h dX12_clear_3 sk_1302 ?_
      refine ca_icmp_ge (tgt := 19) h dX12_clear_6 (by decide) (fun c_6 => ?_) (fun c_6 => ?_)
      · exact absurd (nI_lt (a := k) (b := 1302) hn1 (by decide)) c_6
      ·
        refine ca_aload_nr h dX12_clear_9 rfl ?_
        refine ca_iload_n h dX12_clear_10 rfl ?_
        refine ca_iconst h dX12_clear_11 ik_0 ?_
        refine ca_iast h hk hv (vp_in_nI hn1 (by decide)) dX12_clear_12 ?_
        refine ca_iinc h dX12_clear_13 rfl ik_1 rfl ?_
        refine ca_goto (tgt := 2) h dX12_clear_16 (by decide) ?_
        refine ca_pick [1, 0] rfl ?_
        exact ih_2 (k + 1) (by omega) _ (nI_1 k) _ (by rw [ch_st_nw, up_s, up_up, na_nw, nI_clamp (by omega), r_clr_s])
  refine ca_pick [1, 0] rfl ?_
  exact loop_2 1302 0 (Nat.zero_add _) _ rfl _ (by rw [show (fun i => if i < 0 then 0 else μ 16 kd 0 i) = μ 16 kd 0 from rfl, na_id, up_id])
