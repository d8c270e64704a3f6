/-! THE REFERENCE: codes made of a query's text -/
def r_C (p : ch_N) (cs : List Int32) : Prop := p 22 0 24 = nI cs.length ∧ cs.length ≤ 200 ∧ ∀ (k : Nat) (h : k < cs.length), p 32 0 k = cs[k]
def r_tc (p p' : ch_N) : Prop := (∀ kd, kd ≠ 22 → kd ≠ 32 → p' kd = p kd) ∧ ∀ j, j < 13 ∨ j = 19 ∨ (20 < j ∧ j ≠ 24) → p' 22 0 j = p 22 0 j
theorem r_tc_tr {p p' p2 : ch_N} (h : r_tc p p') (h2 : r_tc p' p2) : r_tc p p2 := ⟨fun kd a b => (h2.1 kd a b).trans (h.1 kd a b), fun j hj => (h2.2 j hj).trans (h.2 j hj)⟩
theorem r_tc_tf {p p' : ch_N} (h : r_tf p p') : r_tc p p' := ⟨fun kd a _ => h.1 kd a, fun j hj => h.2 j (by omega)⟩
theorem r_tc_20 {p : ch_N} {v : Int32} : r_tc p (nw p 22 0 20 v) := ⟨fun kd a _ => nw_k a, fun j hj => by rw [nw_at, if_neg (by omega)]⟩
theorem r_C_tf {p p' : ch_N} {cs : List Int32} (h : r_C p cs) (hf : r_tf p p') : r_C p' cs := ⟨by rw [hf.2 24 (by omega)]; exact h.1, h.2.1, fun k hk => by rw [hf.1 32 (by decide)]; exact h.2.2 k hk⟩
theorem r_C_20 {p : ch_N} {v : Int32} {cs : List Int32} (h : r_C p cs) : r_C (nw p 22 0 20 v) cs := ⟨by rw [nw_at, if_neg (by omega)]; exact h.1, h.2.1, fun k hk => by rw [nw_k (by decide)]; exact h.2.2 k hk⟩
theorem r_X1_o {q p p' : ch_N} (h : r_X1 q p) (hs : ∀ j, 13 ≤ j → j ≤ 18 → p' 22 0 j = p 22 0 j) (h30 : p' 30 0 = p 30 0) : r_X1 q p' := by
  obtain ⟨⟨a1, a2, a3, a4⟩, b, c1, c2, c3, d⟩ := h
  exact ⟨⟨by rw [hs 13 (by omega) (by omega)]; exact a1, by rw [hs 14 (by omega) (by omega)]; exact a2, by rw [hs 17 (by omega) (by omega)]; exact a3, fun i hi => by rw [h30]; exact a4 i hi⟩, b, by rw [hs 15 (by omega) (by omega)]; exact c1, by rw [hs 16 (by omega) (by omega)]; exact c2, fun z => by rw [hs 18 (by omega) (by omega)]; exact c3 z, d⟩
theorem r_X1_20 {q p : ch_N} {v : Int32} (h : r_X1 q p) : r_X1 q (nw p 22 0 20 v) := r_X1_o h (fun j h1 h2 => by rw [nw_at, if_neg (by omega)]) (by rw [nw_k (by decide)])
theorem t_n_gt {q p : ch_N} (h : r_X1 q p) (hlt : t_s q < t_e q) : t_s q < t_n q := by
  rw [h.2.2.2.2.2.2.2]
  have e0 : t_n0 (t_e q) (t_s q) = t_s q + 1 := by unfold t_n0; split <;> omega
  unfold t_nn
  rw [e0]
  split
  · have := t_rn_le (q 13 0) (t_e q) (t_k (q 13 0) (t_e q) (t_s q)) (t_e q - (t_s q + 1)) (t_s q + 1); omega
  · omega
theorem t_adv_gt {q p : ch_N} (h : r_X1 q p) (h0 : q 12 0 1 = 0) (hlt : t_s q < t_e q) : t_s q + 1 ≤ t_s (t_adv q) := by
  have h1 := t_n_gt h hlt
  have h2 := t_adv_s h.2.1 h0
  omega
theorem t_is_0 {q : ch_N} {a : Nat} (h : t_is q a = true) : q 12 0 1 = 0 := (of_decide_eq_true h).1
theorem t_is_f {q : ch_N} {a : Nat} (h : ¬ q 12 0 1 = 0) : t_is q a = false := decide_eq_false (fun z => h z.1)
theorem nm_k : ∀ j, j < 8 → 0 < k_len (ch_nm j) ∧ t_kd (k_chr (ch_nm j) 0) = 1 := by decide
theorem e_svL_see {q : ch_N} (h : ∀ j, j < 8 → ¬ t_is q (ch_nm j) = true) : ∀ j, j ≤ 8 → e_svL q j = t_see q 0 9999
  | 0, _ => rfl
  | j + 1, hj => by
    have e : e_svL q (j + 1) = if t_is q (ch_nm (8 - (j + 1))) = true then (-1 - nI (8 - (j + 1)), q) else e_svL q j := rfl
    rw [e, if_neg (h _ (by omega))]
    exact e_svL_see h j (by omega)
theorem e_sv_num {q p : ch_N} (hX : r_X1 q p) (h : q 12 0 7 = 2 ∨ ¬ q 12 0 1 = 0) : e_sv q = t_see q 0 9999 := by
  refine e_svL_see (fun j hj z => ?_) 8 (Nat.le_refl 8)
  rcases h with h | h
  · have := (t_is_kind hX z (nm_k j hj).1).1
    rw [h, (nm_k j hj).2] at this
    exact absurd this (by decide)
  · exact h (t_is_0 z)
theorem t_take_e (q : ch_N) (lo hi : Int32) : t_take q lo hi = ((t_see q lo hi).1, t_adv (t_see q lo hi).2) := rfl
theorem app_get {cs : List Int32} {c : Int32} {f : Nat → Int32} (h : ∀ (k : Nat) (hk : k < cs.length), f k = cs[k]) : ∀ (k : Nat) (hk : k < (cs ++ [c]).length), up f cs.length c k = (cs ++ [c])[k] := by
  intro k hk
  rw [List.length_append] at hk
  have h1 : [c].length = 1 := rfl
  by_cases e : k = cs.length
  · subst e
    rw [up_s, List.getElem_append_right (Nat.le_refl _)]
    simp
  · rw [up_n e, List.getElem_append_left (by omega)]
    exact h k (by omega)
set_option maxHeartbeats 100000 in
theorem c_X12_emit {l : Launch} {E : ch_E} {S : ch_S} {μ : ch_M} (hs : ch_Std E S) {q : ch_N} (hX : r_X1 q (μ 16)) {cs : List Int32} (hCs : q 12 0 1 = 0 → r_C (μ 16) cs ∧ cs.length < 200) {c : Int32} : ch_C E l yX12_emit cX12_emit 2 none 1 0 0 S μ [.ref (S.1 16 22 0), .int c] (ch_FX none S (fun μ' => ∃ p', μ' = up μ 16 p' ∧ r_X1 q p' ∧ r_tc (μ 16) p' ∧ p' 22 0 20 = μ 16 22 0 20 ∧ (q 12 0 1 = 0 → r_C p' (cs ++ [c])))) := by
  refine ch_enter rfl rfl ?_
  intro X hl0 h hG hR hnm
  have h : ch_H X E RX12 cX12_emit 2 := h
  show ch_W X E 2 S μ 0 0 0 [(0, .ref (S.1 16 22 0)), (1, .int c)] []
  refine ca_aload_nr h dX12_emit_0 rfl ?_
  refine gi_X12_301 h (hs.1 _ _ _ ⟨rfl, rfl⟩) dX12_emit_1 ?_
  rw [show μ 16 22 0 17 = q 12 0 1 from hX.1.2.2.1]
  refine ca_if_ne (tgt := 27) h dX12_emit_4 (by decide) (fun c_4 => ?_) (fun c_4 => ?_)
  ·
    refine ca_vreturn h hR dX12_emit_27 ?_
    exact ⟨rfl, rfl, _, (up_id μ 16).symm, hX, r_tc_tf (r_tf_id _), rfl, fun z => absurd z c_4⟩
  ·
    obtain ⟨⟨hc1, hc2, hc3⟩, hc4⟩ := hCs c_4
    refine ca_aload_nr h dX12_emit_7 rfl ?_
    refine gs_X12_60 h hs ⟨rfl, rfl⟩ dX12_emit_8 ?_
    refine ca_aload_nr h dX12_emit_11 rfl ?_
    refine gi_X12_376 h (hs.1 _ _ _ ⟨rfl, rfl⟩) dX12_emit_12 ?_
    refine ca_top hc1 ?_
    refine ca_iload_n h dX12_emit_15 rfl ?_
    refine ca_iast h rfl (hs.1 _ _ _ ⟨rfl, rfl⟩) (vp_in_nI hc4 (by decide)) dX12_emit_16 ?_
    refine ca_aload_nr h dX12_emit_17 rfl ?_
    refine ca_dup h dX12_emit_18 rfl ?_
    refine gi_X12_376 h (hs.1 _ _ _ ⟨rfl, rfl⟩) dX12_emit_19 ?_
    refine ca_top (show _ = nI cs.length by rw [ch_st_nw, up_s, nw_at, if_neg (by omega)]; exact hc1) ?_
    refine ca_iconst h dX12_emit_22 ik_1 ?_
    refine ca_iadd h dX12_emit_23 ?_
    refine pi_X12_376 h (hs.1 _ _ _ ⟨rfl, rfl⟩) dX12_emit_24 ?_
    refine ca_vreturn h hR dX12_emit_27 ?_
    refine ⟨rfl, rfl, _, by rw [ch_st_nw, ch_st_nw, up_s, up_up, nI_clamp (by omega), nI_1], r_X1_o hX (fun j h1 h2 => by rw [nw_at, if_neg (by omega), nw_at, if_neg (by omega)]) (by rw [nw_k (by decide), nw_k (by decide)]), ⟨fun kd h1 h2 => by rw [nw_k h1, nw_k h2], fun j hj => by rw [nw_at, if_neg (by omega), nw_at, if_neg (by omega)]⟩, by rw [nw_at, if_neg (by omega), nw_at, if_neg (by omega)], fun _ => ⟨by rw [nw_at, if_pos ⟨rfl, rfl, rfl⟩, List.length_append]; rfl, by rw [List.length_append]; exact hc4, fun k hk => ?_⟩⟩
    rw [nw_k (by decide)]
    have e9 : nw (μ 16) 32 0 cs.length c 32 0 = up (μ 16 32 0) cs.length c := by
      funext i
      rw [nw_at]
      by_cases g : i = cs.length
      · rw [if_pos ⟨rfl, rfl, g⟩, g, up_s]
      · rw [if_neg (fun z => g z.2.2), up_n g]
    rw [e9]
    exact app_get hc3 k hk
theorem nm_gt : ∀ j, j < 8 → (-20 : Int32) < -1 - nI j := by decide
set_option maxHeartbeats 100000 in
theorem c_X12_compileValue {l : Launch} {E : ch_E} {S : ch_S} {μ : ch_M} (hs : ch_Std E S) {q : ch_N} (hX : r_X1 q (μ 16)) (he2 : t_e q ≤ 200) {cs : List Int32} (hCs : q 12 0 1 = 0 → r_C (μ 16) cs ∧ cs.length ≤ t_s q) : ch_C E l yX12_compileValue cX12_compileValue 2 none 6 0 0 S μ [.ref (S.1 16 22 0)] (ch_FX none S (fun μ' => ∃ p', μ' = up μ 16 p' ∧ r_X1 (t_adv (e_sv q).2) p' ∧ r_tc (μ 16) p' ∧ p' 22 0 20 = μ 16 22 0 20 ∧ (t_adv (e_sv q).2 12 0 1 = 0 → q 12 0 1 = 0 ∧ r_C p' (cs ++ [(e_sv q).1]) ∧ -20 < (e_sv q).1 ∧ t_s q + 1 ≤ t_s (t_adv (e_sv q).2)))) := by
  refine ch_enter rfl rfl ?_
  intro X hl0 h hG hR hnm
  have h : ch_H X E RX12 cX12_compileValue 2 := h
  obtain ⟨⟨x1, x2, x3, x4⟩, x5, x6, x7, x8, x9, x10, x11⟩ := id hX
  show ch_W X E 2 S μ 0 0 0 [(0, .ref (S.1 16 22 0))] []
  refine ca_aload_nr h dX12_compileValue_0 rfl ?_
  refine gi_X12_301 h (hs.1 _ _ _ ⟨rfl, rfl⟩) dX12_compileValue_1 ?_
  rw [x3]
  refine ca_if_ne (tgt := 15) h dX12_compileValue_4 (by decide) (fun c_4 => ?_) (fun c_4 => ?_)
  ·
    have hk : q 12 0 7 = 2 ∨ ¬ q 12 0 1 = 0 := Or.inr c_4
    have hv := e_sv_num hX hk
    have e1 : t_adv (e_sv q).2 = (t_take q 0 9999).2 := by rw [hv]; rfl
    have e2 : (e_sv q).1 = (t_take q 0 9999).1 := by rw [hv]; rfl
    have hgt : (t_take q 0 9999).2 12 0 1 = 0 → q 12 0 1 = 0 ∧ t_s q + 1 ≤ t_s (t_take q 0 9999).2 := fun z => by
      obtain ⟨z0, -, -⟩ := t_take_in hX z
      have hk2 : q 12 0 7 = 2 := hk.resolve_right (fun y => y z0)
      have hlt : t_s q < t_e q := by
        refine Nat.not_le.mp (fun y => ?_)
        have h9 := x9.symm.trans hk2
        unfold t_k at h9
        rw [t_at_e _ y] at h9
        exact absurd h9 (by decide)
      have hq2 : r_q2 q 0 9999 = q := by
        rw [t_take_2, t_adv_1] at z
        have h1 : r_q1 q = q := by unfold r_q1; rw [if_pos hk2]
        unfold r_q2 at z ⊢
        rw [h1] at z ⊢
        rw [if_neg (fun y => y z0)] at z ⊢
        split at z
        · exact absurd z (t_fail_ne (by decide))
        · rename_i g; rw [if_neg g]
      rw [t_take_2, hq2]
      exact ⟨z0, t_adv_gt hX z0 hlt⟩
    refine ca_aload_nr h dX12_compileValue_15 rfl ?_
    refine ca_aload_nr h dX12_compileValue_16 rfl ?_
    refine ca_iconst h dX12_compileValue_17 ik_0 ?_
    refine ca_sipush h dX12_compileValue_18 sk_9999 ?_
    refine ca_vXi h hG ml_X12_342 (c_X12_number hs hX (by decide)) (ci := 12) rfl rfl rfl (hs.1 _ _ _ ⟨rfl, rfl⟩) rfl rfl rfl rfl ⟨Nat.le_refl _, Nat.le_refl _⟩ rfl dX12_compileValue_21 ?_
    intro μ9 hμ9
    obtain ⟨p, rfl, hX9, hf⟩ := hμ9
    refine ca_vXv h hG ml_X12_379 (c_X12_emit hs (q := (t_take q 0 9999).2) (by rw [up_s]; exact hX9) (cs := cs) (fun z => by obtain ⟨z0, z1⟩ := hgt z; obtain ⟨y1, y2⟩ := hCs z0; rw [up_s]; exact ⟨r_C_tf y1 hf, by have := hX9.2.1.2.2; have := hX9.2.1.1.2.2.2; have := (mo_take q 0 9999 x5).1; omega⟩)) (ci := 12) rfl rfl rfl (hs.1 _ _ _ ⟨rfl, rfl⟩) rfl rfl rfl rfl ⟨Nat.le_refl _, Nat.le_refl _⟩ rfl dX12_compileValue_24 ?_
    intro μ9 hμ9
    obtain ⟨p2, rfl, hX8, hc8, h20, hC8⟩ := hμ9
    rw [up_up]
    rw [up_s] at hc8 h20
    refine ca_vreturn h hR dX12_compileValue_27 ?_
    exact ⟨rfl, rfl, p2, rfl, by rw [e1]; exact hX8, r_tc_tr (r_tc_tf hf) hc8, by rw [h20, hf.2 20 (by omega)], fun z => by
      rw [e1] at z ⊢
      obtain ⟨z0, z1⟩ := hgt z
      refine ⟨z0, by rw [e2]; exact hC8 z, ?_, z1⟩
      obtain ⟨-, l1, -⟩ := t_take_in hX z
      rw [e2]
      exact Int32.lt_of_lt_of_le (by decide) (Int32.not_lt.mp l1)⟩
  ·
    refine ca_aload_nr h dX12_compileValue_7 rfl ?_
    refine gi_X12_292 h (hs.1 _ _ _ ⟨rfl, rfl⟩) dX12_compileValue_8 ?_
    refine ca_top (show _ = r_tok (q 12 0 7) from x7) ?_
    refine ca_iconst h dX12_compileValue_11 ik_2 ?_
    refine ca_icmp_ne (tgt := 28) h dX12_compileValue_12 (by decide) (fun c_12 => ?_) (fun c_12 => ?_)
    ·
      have hk2n : ¬ q 12 0 7 = 2 := fun z => c_12 ((r_tok2 hX).mpr z)
      refine ca_iconst h dX12_compileValue_28 ik_0 ?_
      refine ca_istore_n h dX12_compileValue_29 rfl ?_
      have loop_30 : ∀ (jj j : Nat), j + jj = 8 → ∀ (x1 : Int32) (e1 : x1 = nI j) (hx : e_sv q = e_svL q jj), ch_W X E 2 S μ 0 0 30 [(0, .ref (S.1 16 22 0)), (1, .int x1)] [] := by
        intro jj
        induction jj with
        | zero =>
          intro j hn x1 e1 hx
          have hn : j = 8 := by omega
          subst e1
          refine ca_iload_n h dX12_compileValue_30 rfl ?_
          refine ca_aload_nr h dX12_compileValue_31 rfl ?_
          refine gs_X12_56 h hs ⟨rfl, rfl⟩ dX12_compileValue_32 ?_
          refine ca_alenq h rfl (by decide) (hs.1 _ _ _ ⟨rfl, rfl⟩) al_8 dX12_compileValue_35 ?_
          refine ca_icmp_ge (tgt := 58) h dX12_compileValue_36 (by decide) (fun c_36 => ?_) (fun c_36 => ?_)
          ·
            refine ca_aload_nr h dX12_compileValue_58 rfl ?_
            refine ca_iload_n h dX12_compileValue_59 rfl ?_
            refine ca_aload_nr h dX12_compileValue_60 rfl ?_
            refine gs_X12_56 h hs ⟨rfl, rfl⟩ dX12_compileValue_61 ?_
            refine ca_alenq h rfl (by decide) (hs.1 _ _ _ ⟨rfl, rfl⟩) al_8 dX12_compileValue_64 ?_
            refine ca_icmp_ge (tgt := 72) h dX12_compileValue_65 (by decide) (fun c_65 => ?_) (fun c_65 => ?_)
            ·
              refine ca_iconst h dX12_compileValue_72 ik_0 ?_
              refine ca_iconst h dX12_compileValue_73 ik_1 ?_
              refine ca_vXv h hG ml_X12_328 (c_X12_check hs hX) (ci := 12) rfl rfl rfl (hs.1 _ _ _ ⟨rfl, rfl⟩) rfl rfl rfl rfl ⟨Nat.le_refl _, Nat.le_refl _⟩ rfl dX12_compileValue_74 ?_
              intro μ9 hμ9
              obtain ⟨p, rfl, hX9, hf⟩ := hμ9
              obtain ⟨qz, hqz⟩ : ∃ z, z = t_fail q 1 := ⟨_, rfl⟩
              rw [r_chk_0, ← hqz] at hX9
              have hCz : qz 12 0 1 = 0 → r_C (up μ 16 p 16) cs ∧ cs.length < 200 := fun z => absurd z (by rw [hqz]; exact t_fail_ne (by decide))
              refine ca_aload_nr h dX12_compileValue_77 rfl ?_
              refine ca_iconst h dX12_compileValue_78 ik_m1 ?_
              refine ca_iload_n h dX12_compileValue_79 rfl ?_
              refine ca_isub h dX12_compileValue_80 ?_
              refine ca_vXv h hG ml_X12_379 (c_X12_emit hs (q := qz) (by rw [up_s]; exact hX9) (cs := cs) hCz) (ci := 12) rfl rfl rfl (hs.1 _ _ _ ⟨rfl, rfl⟩) rfl rfl rfl rfl ⟨Nat.le_refl _, Nat.le_refl _⟩ rfl dX12_compileValue_81 ?_
              intro μ9 hμ9
              obtain ⟨p2, rfl, hX8, hc8, h20, hC8⟩ := hμ9
              rw [up_up]
              rw [up_s] at hc8 h20
              refine ca_aload_nr h dX12_compileValue_84 rfl ?_
              refine ca_vXv h hG ml_X12_332 (c_X12_advance hs (q := qz) (by rw [up_s]; exact hX8)) (ci := 12) rfl rfl rfl (hs.1 _ _ _ ⟨rfl, rfl⟩) rfl rfl rfl rfl ⟨Nat.le_refl _, Nat.le_refl _⟩ rfl dX12_compileValue_85 ?_
              intro μ9 hμ9
              obtain ⟨p3, rfl, hX7, hf3⟩ := hμ9
              rw [up_up]
              rw [up_s] at hf3
              refine ca_vreturn h hR dX12_compileValue_88 ?_
              have e3 : t_adv (e_sv q).2 = t_adv qz := by
                have hall : ∀ i, i < 8 → True := fun _ _ => trivial
                have e4 : (e_sv q).2 = qz := by rw [hx]; show (t_see q 0 9999).2 = _; show (t_sn (r_q1 q) 0 9999).2 = _; unfold r_q1; rw [if_neg hk2n]; unfold t_sn; rw [if_pos (t_fail_ne (by decide))]; exact hqz.symm
                rw [e4]
              exact ⟨rfl, rfl, p3, rfl, by rw [e3]; exact hX7, r_tc_tr (r_tc_tr (r_tc_tf hf) hc8) (r_tc_tf hf3), by rw [hf3.2 20 (by omega), h20, hf.2 20 (by omega)], fun z => absurd z (by rw [e3, hqz, t_adv_f (t_fail_ne (by decide))]; exact t_fail_ne (by decide))⟩
            · exact absurd c_65 (nI_nlt (a := j) (b := 8) (by omega) (by omega))
          · exact absurd c_36 (nI_nlt (a := j) (b := 8) (by omega) (by omega))
        | succ jj ih_30 =>
          intro j hn x1 e1 hx
          have hn1 : j < 8 := by omega
          subst e1
          refine ca_iload_n h dX12_compileValue_30 rfl ?_
          refine ca_aload_nr h dX12_compileValue_31 rfl ?_
          refine gs_X12_56 h hs ⟨rfl, rfl⟩ dX12_compileValue_32 ?_
          refine ca_alenq h rfl (by decide) (hs.1 _ _ _ ⟨rfl, rfl⟩) al_8 dX12_compileValue_35 ?_
          refine ca_icmp_ge (tgt := 58) h dX12_compileValue_36 (by decide) (fun c_36 => ?_) (fun c_36 => ?_)
          · exact absurd (nI_lt (a := j) (b := 8) hn1 (by decide)) c_36
          ·
            refine ca_aload_nr h dX12_compileValue_39 rfl ?_
            refine ca_aload_nr h dX12_compileValue_40 rfl ?_
            refine gs_X12_56 h hs ⟨rfl, rfl⟩ dX12_compileValue_41 ?_
            refine ca_iload_n h dX12_compileValue_44 rfl ?_
            refine ca_aald h rfl (by decide) rfl (hs.1 _ _ _ ⟨rfl, rfl⟩) (vp_in_nI hn1 (by decide)) ((congrArg (S.2.2 16 31 0) (nI_clamp (show j < 2 ^ 31 by omega))).trans (hs.2.2 j hn1)) dX12_compileValue_45 ?_
            refine ca_vi h hG ml_X12_324 (c_X12_isWord hs hX (a := ch_nm j) (ch_nm_lt j hn1) (nm_k j hn1).1 (nm_k j hn1).2) (ci := 12) rfl rfl rfl (hs.1 _ _ _ ⟨rfl, rfl⟩) rfl rfl rfl rfl ⟨Nat.le_refl _, Nat.le_refl _⟩ rfl dX12_compileValue_46 ?_
            refine ca_if_ne (tgt := 58) h dX12_compileValue_49 (by decide) (fun c_49 => ?_) (fun c_49 => ?_)
            ·
              refine ca_aload_nr h dX12_compileValue_58 rfl ?_
              refine ca_iload_n h dX12_compileValue_59 rfl ?_
              refine ca_aload_nr h dX12_compileValue_60 rfl ?_
              refine gs_X12_56 h hs ⟨rfl, rfl⟩ dX12_compileValue_61 ?_
              refine ca_alenq h rfl (by decide) (hs.1 _ _ _ ⟨rfl, rfl⟩) al_8 dX12_compileValue_64 ?_
              refine ca_icmp_ge (tgt := 72) h dX12_compileValue_65 (by decide) (fun c_65 => ?_) (fun c_65 => ?_)
              · exact absurd (nI_lt (a := j) (b := 8) hn1 (by decide)) c_65
              ·
                refine ca_iconst h dX12_compileValue_68 ik_1 ?_
                refine ca_goto (tgt := 73) h dX12_compileValue_69 (by decide) ?_
                refine ca_iconst h dX12_compileValue_73 ik_1 ?_
                refine ca_vXv h hG ml_X12_328 (c_X12_check hs hX) (ci := 12) rfl rfl rfl (hs.1 _ _ _ ⟨rfl, rfl⟩) rfl rfl rfl rfl ⟨Nat.le_refl _, Nat.le_refl _⟩ rfl dX12_compileValue_74 ?_
                intro μ9 hμ9
                obtain ⟨p, rfl, hX9, hf⟩ := hμ9
                obtain ⟨qz, hqz⟩ : ∃ z, z = q := ⟨_, rfl⟩
                rw [r_chk_1, ← hqz] at hX9
                have hCz : qz 12 0 1 = 0 → r_C (up μ 16 p 16) cs ∧ cs.length < 200 := fun z => by
                  rw [hqz] at z
                  obtain ⟨y1, y2⟩ := hCs z
                  rw [up_s]
                  exact ⟨r_C_tf y1 hf, by have := (t_is_kind hX (bI_n0.mp c_49) (nm_k j hn1).1).2; omega⟩
                refine ca_aload_nr h dX12_compileValue_77 rfl ?_
                refine ca_iconst h dX12_compileValue_78 ik_m1 ?_
                refine ca_iload_n h dX12_compileValue_79 rfl ?_
                refine ca_isub h dX12_compileValue_80 ?_
                refine ca_vXv h hG ml_X12_379 (c_X12_emit hs (q := qz) (by rw [up_s]; exact hX9) (cs := cs) hCz) (ci := 12) rfl rfl rfl (hs.1 _ _ _ ⟨rfl, rfl⟩) rfl rfl rfl rfl ⟨Nat.le_refl _, Nat.le_refl _⟩ rfl dX12_compileValue_81 ?_
                intro μ9 hμ9
                obtain ⟨p2, rfl, hX8, hc8, h20, hC8⟩ := hμ9
                rw [up_up]
                rw [up_s] at hc8 h20
                refine ca_aload_nr h dX12_compileValue_84 rfl ?_
                refine ca_vXv h hG ml_X12_332 (c_X12_advance hs (q := qz) (by rw [up_s]; exact hX8)) (ci := 12) rfl rfl rfl (hs.1 _ _ _ ⟨rfl, rfl⟩) rfl rfl rfl rfl ⟨Nat.le_refl _, Nat.le_refl _⟩ rfl dX12_compileValue_85 ?_
                intro μ9 hμ9
                obtain ⟨p3, rfl, hX7, hf3⟩ := hμ9
                rw [up_up]
                rw [up_s] at hf3
                refine ca_vreturn h hR dX12_compileValue_88 ?_
                have e4 : e_sv q = (-1 - nI j, q) := by rw [hx, e_svL, show 8 - (jj + 1) = j by omega, if_pos (bI_n0.mp c_49)]
                have hk9 := t_is_kind hX (bI_n0.mp c_49) (nm_k j hn1).1
                subst hqz
                refine ⟨rfl, rfl, p3, rfl, by rw [e4]; exact hX7, r_tc_tr (r_tc_tr (r_tc_tf hf) hc8) (r_tc_tf hf3), by rw [hf3.2 20 (by omega), h20, hf.2 20 (by omega)], fun _ => ⟨t_is_0 (bI_n0.mp c_49), ?_, ?_, ?_⟩⟩
                · rw [e4]; exact r_C_tf (hC8 (t_is_0 (bI_n0.mp c_49))) hf3
                · rw [e4]; exact nm_gt j hn1
                · rw [e4]; exact t_adv_gt hX (t_is_0 (bI_n0.mp c_49)) hk9.2
            ·
              refine ca_iinc h dX12_compileValue_52 rfl ik_1 rfl ?_
              refine ca_goto (tgt := 30) h dX12_compileValue_55 (by decide) ?_
              refine ca_pick [1, 0] rfl ?_
              exact ih_30 (j + 1) (by omega) _ (nI_1 j) (by rw [hx, e_svL, show 8 - (jj + 1) = j by omega, if_neg (fun z => bI_n0.mpr z c_49)])
      refine ca_pick [1, 0] rfl ?_
      exact loop_30 8 0 (Nat.zero_add _) _ rfl rfl
    ·
      have hk : q 12 0 7 = 2 ∨ ¬ q 12 0 1 = 0 := Or.inl ((r_tok2 hX).mp c_12)
      have hv := e_sv_num hX hk
      have e1 : t_adv (e_sv q).2 = (t_take q 0 9999).2 := by rw [hv]; rfl
      have e2 : (e_sv q).1 = (t_take q 0 9999).1 := by rw [hv]; rfl
      have hgt : (t_take q 0 9999).2 12 0 1 = 0 → q 12 0 1 = 0 ∧ t_s q + 1 ≤ t_s (t_take q 0 9999).2 := fun z => by
        obtain ⟨z0, -, -⟩ := t_take_in hX z
        have hk2 : q 12 0 7 = 2 := hk.resolve_right (fun y => y z0)
        have hlt : t_s q < t_e q := by
          refine Nat.not_le.mp (fun y => ?_)
          have h9 := x9.symm.trans hk2
          unfold t_k at h9
          rw [t_at_e _ y] at h9
          exact absurd h9 (by decide)
        have hq2 : r_q2 q 0 9999 = q := by
          rw [t_take_2, t_adv_1] at z
          have h1 : r_q1 q = q := by unfold r_q1; rw [if_pos hk2]
          unfold r_q2 at z ⊢
          rw [h1] at z ⊢
          rw [if_neg (fun y => y z0)] at z ⊢
          split at z
          · exact absurd z (t_fail_ne (by decide))
          · rename_i g; rw [if_neg g]
        rw [t_take_2, hq2]
        exact ⟨z0, t_adv_gt hX z0 hlt⟩
      refine ca_aload_nr h dX12_compileValue_15 rfl ?_
      refine ca_aload_nr h dX12_compileValue_16 rfl ?_
      refine ca_iconst h dX12_compileValue_17 ik_0 ?_
      refine ca_sipush h dX12_compileValue_18 sk_9999 ?_
      refine ca_vXi h hG ml_X12_342 (c_X12_number hs hX (by decide)) (ci := 12) rfl rfl rfl (hs.1 _ _ _ ⟨rfl, rfl⟩) rfl rfl rfl rfl ⟨Nat.le_refl _, Nat.le_refl _⟩ rfl dX12_compileValue_21 ?_
      intro μ9 hμ9
      obtain ⟨p, rfl, hX9, hf⟩ := hμ9
      refine ca_vXv h hG ml_X12_379 (c_X12_emit hs (q := (t_take q 0 9999).2) (by rw [up_s]; exact hX9) (cs := cs) (fun z => by obtain ⟨z0, z1⟩ := hgt z; obtain ⟨y1, y2⟩ := hCs z0; rw [up_s]; exact ⟨r_C_tf y1 hf, by have := hX9.2.1.2.2; have := hX9.2.1.1.2.2.2; have := (mo_take q 0 9999 x5).1; omega⟩)) (ci := 12) rfl rfl rfl (hs.1 _ _ _ ⟨rfl, rfl⟩) rfl rfl rfl rfl ⟨Nat.le_refl _, Nat.le_refl _⟩ rfl dX12_compileValue_24 ?_
      intro μ9 hμ9
      obtain ⟨p2, rfl, hX8, hc8, h20, hC8⟩ := hμ9
      rw [up_up]
      rw [up_s] at hc8 h20
      refine ca_vreturn h hR dX12_compileValue_27 ?_
      exact ⟨rfl, rfl, p2, rfl, by rw [e1]; exact hX8, r_tc_tr (r_tc_tf hf) hc8, by rw [h20, hf.2 20 (by omega)], fun z => by
        rw [e1] at z ⊢
        obtain ⟨z0, z1⟩ := hgt z
        refine ⟨z0, by rw [e2]; exact hC8 z, ?_, z1⟩
        obtain ⟨-, l1, -⟩ := t_take_in hX z
        rw [e2]
        exact Int32.lt_of_lt_of_le (by decide) (Int32.not_lt.mp l1)⟩
