/-! THE REFERENCE: load -/
theorem r_J_tg {n sn tx : ch_N} {F : Int32} {u : Nat} {hst : Nat → ch_N} {p p' : ch_N} (h : r_J n sn tx F u hst p) (hg : r_tg p p') : r_J n sn tx F u hst p' := by
  have ek : ∀ kd, kd ≠ 22 → kd ≠ 24 → p' kd = p kd := hg.1
  exact r_J_mk h (by rw [ek 23 (by decide) (by decide)]; exact h.1) (hg.2 5 (by omega)) (hg.2 7 (by omega)) (hg.2 12 (by omega)) (hg.2 19 (by omega)) (by rw [ek 26 (by decide) (by decide)]) (by rw [ek 27 (by decide) (by decide)]) (by rw [ek 30 (by decide) (by decide)])
theorem r_J_close {n sn tx : ch_N} {F : Int32} {u : Nat} {hst : Nat → ch_N} {p q : ch_N} (h : r_J n sn tx F u hst p) : r_J n sn (t_close q) F u hst (nw (nw p 22 0 12 0) 22 0 19 (if q 12 0 1 = 0 then -1 else q 12 0 5)) := by
  obtain ⟨a, ⟨b1, b2, b3⟩, ⟨c1, c2, c3⟩, -⟩ := h
  have ek : ∀ kd v, kd ≠ 22 → (nw (nw p 22 0 12 0) 22 0 19 v) kd = p kd := fun kd v hk => by rw [nw_k hk, nw_k hk]
  have es : ∀ j v, j ≠ 12 → j ≠ 19 → (nw (nw p 22 0 12 0) 22 0 19 v) 22 0 j = p 22 0 j := fun j v h1 h2 => by rw [nw_at, if_neg (fun z => h2 z.2.2), nw_at, if_neg (fun z => h1 z.2.2)]
  refine ⟨by rw [ek 23 _ (by decide)]; exact a, ⟨by rw [es 7 _ (by decide) (by decide)]; exact b1, b2, fun z => by rw [ek 26 _ (by decide)]; exact b3 z⟩, ⟨by rw [es 5 _ (by decide) (by decide)]; exact c1, c2, fun i hi => by rw [ek 27 _ (by decide)]; exact c3 i hi⟩, 0, by omega, ?_, ?_, fun i hi => absurd hi (Nat.not_lt_zero _), ?_⟩
  · unfold t_close; rw [nw_at, if_pos ⟨rfl, rfl, rfl⟩]; rfl
  · rw [nw_at, if_neg (by omega), nw_at, if_pos ⟨rfl, rfl, rfl⟩]; rfl
  · have et : (t_close q) 12 0 2 = (if q 12 0 1 = 0 then -1 else q 12 0 5) := by
      unfold t_close
      rw [nw_at, if_neg (show ¬ (12 = 12 ∧ 0 = 0 ∧ 2 = 0) by omega), nw_at, if_pos ⟨rfl, rfl, rfl⟩]
    rw [nw_at, if_pos ⟨rfl, rfl, rfl⟩, et]
theorem l_net_e (q n : ch_N) : l_net (q, n) = l_nL 700 (q, k_clear n) := rfl
theorem t_tw {q : ch_N} {e : Nat} (he : e ≤ 700) : t_e (t_open q (nI e)) = e := by
  show t_e (t_adv _) = e
  rw [t_adv_e]
  unfold t_e
  rw [nw_at, if_neg (by omega), nw_at, if_neg (by omega), nw_at, if_pos ⟨rfl, rfl, rfl⟩]
  exact nI_clamp (by omega)
set_option maxHeartbeats 400000 in
theorem c_X12_loadE {l : Launch} {E : ch_E} {S : ch_S} {μ : ch_M} (hs : ch_Std E S) {n sn tx : ch_N} {F : Int32} {u : Nat} {hst : Nat → ch_N} (hJ : r_J n sn tx F u hst (μ 16)) {tr : ch_N} (h5 : ∀ i c, i < 13 → c < 8 → ¬ tr 5 i c < 0 ∧ Int32.toNatClampNeg (tr 5 i c) ≤ 8) {e L : Nat} (hL : tx 12 0 0 = nI L) (heL : e ≤ L) (hL7 : L ≤ 700) (he : ¬ (l_net (t_open tx (nI e), tr)).1 12 0 1 = 0) : ch_C E l yX12_load cX12_load 2 (some FieldType.int) 8 0 0 S μ [.ref (S.1 16 22 0), .int (nI e)] (r_A (some (.int (-10 - (l_net (t_open tx (nI e), tr)).1 12 0 1))) 0 n sn (t_close (l_net (t_open tx (nI e), tr)).1) F u hst S μ) := by
  refine ch_enter rfl rfl ?_
  intro X hl0 h hG hR hnm
  have h : ch_H X E RX12 cX12_load 2 := h
  have hN := hJ.1
  obtain ⟨L', hL1, hL2, hL3, hL4, hL5⟩ := hJ.2.2.2
  have eLL : L' = L := (nI_eq (by omega) (by omega)).mp (hL2.symm.trans hL)
  have he7 : e ≤ 700 := by omega
  show ch_W X E 2 S μ 0 0 0 [(0, .ref (S.1 16 22 0)), (1, .int (nI e))] []
  refine ca_aload_nr h dX12_load_0 rfl ?_
  refine ca_iconst h dX12_load_1 ik_0 ?_
  refine pi_X12_70 h (hs.1 _ _ _ ⟨rfl, rfl⟩) dX12_load_2 ?_
  refine ca_mem (μ'' := up μ 16 (nw (μ 16) 22 0 6 0)) rfl ?_
  refine ca_iload_n h dX12_load_5 rfl ?_
  refine ca_iconst h dX12_load_6 ik_0 ?_
  refine ca_aload_nr h dX12_load_7 rfl ?_
  refine gi_X12_277 h (hs.1 _ _ _ ⟨rfl, rfl⟩) dX12_load_8 ?_
  refine ca_top (show _ = nI L by rw [up_s, nw_at, if_neg (by omega), hL3, eLL]) ?_
  refine ca_si h hG ms_X12_73 (c_X12_inRange) rfl rfl rfl rfl ⟨Nat.le_refl _, Nat.le_refl _⟩ rfl dX12_load_11 ?_
  refine ca_if_ne (tgt := 23) h dX12_load_14 (by decide) (fun c_14 => ?_) (fun c_14 => ?_)
  ·
    refine ca_aload_nr h dX12_load_23 rfl ?_
    refine gs_X12_13 h hs ⟨rfl, rfl⟩ dX12_load_24 ?_
    refine ca_sv h hG ms_X12_66 (c_X12_clear (hs.1 16 24 0 ⟨rfl, rfl⟩) rfl) rfl rfl rfl rfl ⟨Nat.le_refl _, Nat.le_refl _⟩ rfl dX12_load_27 ?_
    refine ca_aload_nr h dX12_load_30 rfl ?_
    refine ca_iload_n h dX12_load_31 rfl ?_
    refine ca_vXv h hG ml_X12_357 (c_X12_start hs (q := tx) (e := e) he7 (fun i hi => by rw [up_s, na_k (by decide), up_s, nw_k (by decide)]; exact hL4 i (by omega))) (ci := 12) rfl rfl rfl (hs.1 _ _ _ ⟨rfl, rfl⟩) rfl rfl rfl rfl ⟨Nat.le_refl _, Nat.le_refl _⟩ rfl dX12_load_32 ?_
    intro μ9 hμ9
    obtain ⟨p0, rfl, hX0, hf0⟩ := hμ9
    rw [up_up, up_up]
    rw [up_s, up_s] at hf0
    have hd0 : p0 24 0 = r_clrW (μ 16 24 0) := by rw [hf0.1 24 (by decide), nw_k (by decide), na_fn, nw_k (by decide)]
    have hg0 : r_tg (nw (μ 16) 22 0 6 0) p0 := r_tg_tr (r_tg_tr ⟨fun kd h1 h2 => na_k h2, fun j _ => by rw [na_k (by decide)]⟩ ⟨fun kd h1 h2 => nw_k h1, fun j hj => by rw [nw_at, if_neg (by omega)]⟩) (r_tg_tf hf0)
    have loop_35 : ∀ (jj j : Nat), j + jj = 700 → ∀ (q : ch_N) (m : ch_N) (p : ch_N) (hXq : r_X1 q p) (hgp : r_tg (nw (μ 16) 22 0 6 0) p) (hDq : q 12 0 1 = 0 → r_D m (p 24 0)) (hfu : q 12 0 1 = 0 → t_e q - t_s q ≤ jj) (heq : (l_net (t_open tx (nI e), tr)) = l_nL jj (q, m)) (mm : ch_M) (em : mm = up μ 16 p), ch_W X E 2 S mm 0 0 35 [(0, .ref (S.1 16 22 0)), (1, .int (nI e))] [] := by
      intro jj
      induction jj with
      | zero =>
        intro j hn q m p hXq hgp hDq hfu heq mm em
        have hn : j = 700 := by omega
        subst em
        refine ca_aload_nr h dX12_load_35 rfl ?_
        refine gi_X12_301 h (hs.1 _ _ _ ⟨rfl, rfl⟩) dX12_load_36 ?_
        refine ca_top (show _ = q 12 0 1 by rw [up_s]; exact hXq.1.2.2.1) ?_
        refine ca_if_ne (tgt := 95) h dX12_load_39 (by decide) (fun c_39 => ?_) (fun c_39 => ?_)
        ·
          have eqm : (l_net (t_open tx (nI e), tr)) = (q, m) := heq
          have e1 : (l_net (t_open tx (nI e), tr)).1 = q := by rw [eqm]
          have e2 : (l_net (t_open tx (nI e), tr)).2 = m := by rw [eqm]
          refine ca_aload_nr h dX12_load_95 rfl ?_
          refine ca_vi h hG ml_X12_374 (c_X12_finish_ hs (q := q) (by rw [up_s]; exact hXq)) (ci := 12) rfl rfl rfl (hs.1 _ _ _ ⟨rfl, rfl⟩) rfl rfl rfl rfl ⟨Nat.le_refl _, Nat.le_refl _⟩ rfl dX12_load_96 ?_
          rw [up_s, up_up]
          refine ca_if_eq (tgt := 110) h dX12_load_99 (by decide) (fun c_99 => ?_) (fun c_99 => ?_)
          · exact absurd c_99 (by rw [← e1]; exact he)
          ·
            refine ca_bipush h dX12_load_102 bk_m10 ?_
            refine ca_aload_nr h dX12_load_104 rfl ?_
            refine gi_X12_301 h (hs.1 _ _ _ ⟨rfl, rfl⟩) dX12_load_105 ?_
            refine ca_top (show _ = q 12 0 1 by rw [up_s, nw_at, if_neg (by omega), nw_at, if_neg (by omega)]; exact hXq.1.2.2.1) ?_
            refine ca_isub h dX12_load_108 ?_
            refine ca_ireturn h hR rfl dX12_load_109 ?_
            refine ⟨by rw [e1], rfl, _, rfl, ?_, ?_⟩
            · rw [nw_at, if_neg (by omega), nw_at, if_neg (by omega), hgp.2 6 (by omega)]; exact (show (nw (μ 16) 22 0 6 0) 22 0 6 = 0 by rw [nw_at, if_pos ⟨rfl, rfl, rfl⟩])
            · rw [e1]; exact r_J_close (r_J_tg (r_J_th hJ) hgp)
        ·
          refine ca_aload_nr h dX12_load_42 rfl ?_
          refine gi_X12_292 h (hs.1 _ _ _ ⟨rfl, rfl⟩) dX12_load_43 ?_
          refine ca_top (show _ = r_tok (q 12 0 7) by rw [up_s]; exact hXq.2.2.2.1) ?_
          refine ca_if_eq (tgt := 95) h dX12_load_46 (by decide) (fun c_46 => ?_) (fun c_46 => ?_)
          ·
            have eqm : (l_net (t_open tx (nI e), tr)) = (q, m) := heq
            have e1 : (l_net (t_open tx (nI e), tr)).1 = q := by rw [eqm]
            have e2 : (l_net (t_open tx (nI e), tr)).2 = m := by rw [eqm]
            refine ca_aload_nr h dX12_load_95 rfl ?_
            refine ca_vi h hG ml_X12_374 (c_X12_finish_ hs (q := q) (by rw [up_s]; exact hXq)) (ci := 12) rfl rfl rfl (hs.1 _ _ _ ⟨rfl, rfl⟩) rfl rfl rfl rfl ⟨Nat.le_refl _, Nat.le_refl _⟩ rfl dX12_load_96 ?_
            rw [up_s, up_up]
            refine ca_if_eq (tgt := 110) h dX12_load_99 (by decide) (fun c_99 => ?_) (fun c_99 => ?_)
            · exact absurd c_99 (by rw [← e1]; exact he)
            ·
              refine ca_bipush h dX12_load_102 bk_m10 ?_
              refine ca_aload_nr h dX12_load_104 rfl ?_
              refine gi_X12_301 h (hs.1 _ _ _ ⟨rfl, rfl⟩) dX12_load_105 ?_
              refine ca_top (show _ = q 12 0 1 by rw [up_s, nw_at, if_neg (by omega), nw_at, if_neg (by omega)]; exact hXq.1.2.2.1) ?_
              refine ca_isub h dX12_load_108 ?_
              refine ca_ireturn h hR rfl dX12_load_109 ?_
              refine ⟨by rw [e1], rfl, _, rfl, ?_, ?_⟩
              · rw [nw_at, if_neg (by omega), nw_at, if_neg (by omega), hgp.2 6 (by omega)]; exact (show (nw (μ 16) 22 0 6 0) 22 0 6 = 0 by rw [nw_at, if_pos ⟨rfl, rfl, rfl⟩])
              · rw [e1]; exact r_J_close (r_J_tg (r_J_th hJ) hgp)
          · exact absurd ((r_tok0 hXq).mpr (by have := hfu c_39; omega)) c_46
      | succ jj ih_35 =>
        intro j hn q m p hXq hgp hDq hfu heq mm em
        have hn1 : j < 700 := by omega
        subst em
        refine ca_aload_nr h dX12_load_35 rfl ?_
        refine gi_X12_301 h (hs.1 _ _ _ ⟨rfl, rfl⟩) dX12_load_36 ?_
        refine ca_top (show _ = q 12 0 1 by rw [up_s]; exact hXq.1.2.2.1) ?_
        refine ca_if_ne (tgt := 95) h dX12_load_39 (by decide) (fun c_39 => ?_) (fun c_39 => ?_)
        ·
          have eqm : (l_net (t_open tx (nI e), tr)) = (q, m) := by rw [heq, l_nL_s, if_neg (by rw [t_go_e hXq]; exact fun z => c_39 (of_decide_eq_true z).1)]
          have e1 : (l_net (t_open tx (nI e), tr)).1 = q := by rw [eqm]
          have e2 : (l_net (t_open tx (nI e), tr)).2 = m := by rw [eqm]
          refine ca_aload_nr h dX12_load_95 rfl ?_
          refine ca_vi h hG ml_X12_374 (c_X12_finish_ hs (q := q) (by rw [up_s]; exact hXq)) (ci := 12) rfl rfl rfl (hs.1 _ _ _ ⟨rfl, rfl⟩) rfl rfl rfl rfl ⟨Nat.le_refl _, Nat.le_refl _⟩ rfl dX12_load_96 ?_
          rw [up_s, up_up]
          refine ca_if_eq (tgt := 110) h dX12_load_99 (by decide) (fun c_99 => ?_) (fun c_99 => ?_)
          · exact absurd c_99 (by rw [← e1]; exact he)
          ·
            refine ca_bipush h dX12_load_102 bk_m10 ?_
            refine ca_aload_nr h dX12_load_104 rfl ?_
            refine gi_X12_301 h (hs.1 _ _ _ ⟨rfl, rfl⟩) dX12_load_105 ?_
            refine ca_top (show _ = q 12 0 1 by rw [up_s, nw_at, if_neg (by omega), nw_at, if_neg (by omega)]; exact hXq.1.2.2.1) ?_
            refine ca_isub h dX12_load_108 ?_
            refine ca_ireturn h hR rfl dX12_load_109 ?_
            refine ⟨by rw [e1], rfl, _, rfl, ?_, ?_⟩
            · rw [nw_at, if_neg (by omega), nw_at, if_neg (by omega), hgp.2 6 (by omega)]; exact (show (nw (μ 16) 22 0 6 0) 22 0 6 = 0 by rw [nw_at, if_pos ⟨rfl, rfl, rfl⟩])
            · rw [e1]; exact r_J_close (r_J_tg (r_J_th hJ) hgp)
        ·
          refine ca_aload_nr h dX12_load_42 rfl ?_
          refine gi_X12_292 h (hs.1 _ _ _ ⟨rfl, rfl⟩) dX12_load_43 ?_
          refine ca_top (show _ = r_tok (q 12 0 7) by rw [up_s]; exact hXq.2.2.2.1) ?_
          refine ca_if_eq (tgt := 95) h dX12_load_46 (by decide) (fun c_46 => ?_) (fun c_46 => ?_)
          ·
            have eqm : (l_net (t_open tx (nI e), tr)) = (q, m) := by rw [heq, l_nL_s, if_neg (by rw [t_go_e hXq]; exact fun z => (r_tok0 hXq).mp c_46 (of_decide_eq_true z).2)]
            have e1 : (l_net (t_open tx (nI e), tr)).1 = q := by rw [eqm]
            have e2 : (l_net (t_open tx (nI e), tr)).2 = m := by rw [eqm]
            refine ca_aload_nr h dX12_load_95 rfl ?_
            refine ca_vi h hG ml_X12_374 (c_X12_finish_ hs (q := q) (by rw [up_s]; exact hXq)) (ci := 12) rfl rfl rfl (hs.1 _ _ _ ⟨rfl, rfl⟩) rfl rfl rfl rfl ⟨Nat.le_refl _, Nat.le_refl _⟩ rfl dX12_load_96 ?_
            rw [up_s, up_up]
            refine ca_if_eq (tgt := 110) h dX12_load_99 (by decide) (fun c_99 => ?_) (fun c_99 => ?_)
            · exact absurd c_99 (by rw [← e1]; exact he)
            ·
              refine ca_bipush h dX12_load_102 bk_m10 ?_
              refine ca_aload_nr h dX12_load_104 rfl ?_
              refine gi_X12_301 h (hs.1 _ _ _ ⟨rfl, rfl⟩) dX12_load_105 ?_
              refine ca_top (show _ = q 12 0 1 by rw [up_s, nw_at, if_neg (by omega), nw_at, if_neg (by omega)]; exact hXq.1.2.2.1) ?_
              refine ca_isub h dX12_load_108 ?_
              refine ca_ireturn h hR rfl dX12_load_109 ?_
              refine ⟨by rw [e1], rfl, _, rfl, ?_, ?_⟩
              · rw [nw_at, if_neg (by omega), nw_at, if_neg (by omega), hgp.2 6 (by omega)]; exact (show (nw (μ 16) 22 0 6 0) 22 0 6 = 0 by rw [nw_at, if_pos ⟨rfl, rfl, rfl⟩])
              · rw [e1]; exact r_J_close (r_J_tg (r_J_th hJ) hgp)
          ·
            refine ca_aload_nr h dX12_load_49 rfl ?_
            refine ca_ldcs h (i := 48) (List.mem_of_getElem? (i := 30) rfl) dX12_load_50 ?_
            refine ca_vi h hG ml_X12_324 (c_X12_isWord hs (q := q) (by rw [up_s]; exact hXq) (a := 1) (by decide) (by decide) (by decide)) (ci := 12) rfl rfl rfl (hs.1 _ _ _ ⟨rfl, rfl⟩) rfl rfl rfl rfl ⟨Nat.le_refl _, Nat.le_refl _⟩ rfl dX12_load_52 ?_
            refine ca_if_eq (tgt := 65) h dX12_load_55 (by decide) (fun c_55 => ?_) (fun c_55 => ?_)
            ·
              refine ca_aload_nr h dX12_load_65 rfl ?_
              refine ca_ldcws h (i := 363) (List.mem_of_getElem? (i := 34) rfl) dX12_load_66 ?_
              refine ca_vi h hG ml_X12_324 (c_X12_isWord hs (q := q) (by rw [up_s]; exact hXq) (a := 2) (by decide) (by decide) (by decide)) (ci := 12) rfl rfl rfl (hs.1 _ _ _ ⟨rfl, rfl⟩) rfl rfl rfl rfl ⟨Nat.le_refl _, Nat.le_refl _⟩ rfl dX12_load_69 ?_
              refine ca_if_eq (tgt := 82) h dX12_load_72 (by decide) (fun c_72 => ?_) (fun c_72 => ?_)
              ·
                refine ca_aload_nr h dX12_load_82 rfl ?_
                refine ca_vXv h hG ml_X12_368 (c_X12_readSettings hs (q := q) (n := m) (by rw [up_s]; exact hXq) (by rw [up_s]; exact hDq c_39) c_39) (ci := 12) rfl rfl rfl (hs.1 _ _ _ ⟨rfl, rfl⟩) rfl rfl rfl rfl ⟨Nat.le_refl _, Nat.le_refl _⟩ rfl dX12_load_83 ?_
                intro μ9 hμ9
                obtain ⟨p9, rfl, hX9, hg9, hD9⟩ := hμ9
                rw [up_up]
                rw [up_s] at hg9
                obtain ⟨qc, hqc⟩ : ∃ z, z = (if t_is q 3 = true then l_set (q, m) else (t_fail q 1, m)).1 := ⟨_, rfl⟩
                rw [← hqc] at hX9
                refine ca_aload_nr h dX12_load_86 rfl ?_
                refine ca_bipush h dX12_load_87 bk_59 ?_
                refine ca_vXv h hG ml_X12_371 (c_X12_expect hs (q := qc) (by rw [up_s]; exact hX9) (a := 4) (by decide) (by decide) (by decide)) (ci := 12) rfl rfl rfl (hs.1 _ _ _ ⟨rfl, rfl⟩) rfl rfl rfl rfl ⟨Nat.le_refl _, Nat.le_refl _⟩ rfl dX12_load_89 ?_
                intro μ8 hμ8
                obtain ⟨p8, rfl, hX8, hf8⟩ := hμ8
                rw [up_up]
                rw [up_s] at hf8
                rw [hqc] at hX9 hX8
                refine ca_goto (tgt := 35) h dX12_load_92 (by decide) ?_
                refine ca_pick [0, 1] rfl ?_
                have ecl : l_cl (q, m) = (if t_is q 3 = true then l_set (q, m) else (t_fail q 1, m)) := by rw [l_cl_e, if_neg (fun z => bI_n0.mpr z c_55), if_neg (fun z => bI_n0.mpr z c_72)]
                rw [← ecl] at hX9 hD9 hX8
                have hgo : t_go q = true := by rw [t_go_e hXq]; exact decide_eq_true ⟨c_39, Classical.byContradiction fun z => c_46 ((r_tok0 hXq).mpr z)⟩
                have hmo := mo_cl q m hXq.2.1
                have hgn : r_tg (nw (μ 16) 22 0 6 0) p8 := r_tg_tr (r_tg_tr hgp hg9) (r_tg_tf hf8)
                exact ih_35 (j + 1) (by omega) (t_exp (l_cl (q, m)).1 4) (l_cl (q, m)).2 p8 hX8 hgn (fun z => by
                  obtain ⟨z1, -, -⟩ := mo_exp hmo.2.2 (by decide) z
                  rw [hf8.1 24 (by decide)]
                  exact hD9 z1) (fun z => by
                  obtain ⟨z1, z2, z3⟩ := mo_exp hmo.2.2 (by decide) z
                  have := hfu c_39
                  have := hmo.1
                  have := hmo.2.1
                  omega) (by rw [heq, l_nL_s, if_pos hgo]) _ rfl
              ·
                refine ca_aload_nr h dX12_load_75 rfl ?_
                refine ca_vXv h hG ml_X12_365 (c_X12_readRelation hs (q := q) (n := m) (by rw [up_s]; exact hXq) (by rw [up_s]; exact hDq c_39) c_39) (ci := 12) rfl rfl rfl (hs.1 _ _ _ ⟨rfl, rfl⟩) rfl rfl rfl rfl ⟨Nat.le_refl _, Nat.le_refl _⟩ rfl dX12_load_76 ?_
                intro μ9 hμ9
                obtain ⟨p9, rfl, hX9, hg9, hD9⟩ := hμ9
                rw [up_up]
                rw [up_s] at hg9
                obtain ⟨qc, hqc⟩ : ∃ z, z = (l_rel (q, m)).1 := ⟨_, rfl⟩
                rw [← hqc] at hX9
                refine ca_goto (tgt := 86) h dX12_load_79 (by decide) ?_
                refine ca_aload_nr h dX12_load_86 rfl ?_
                refine ca_bipush h dX12_load_87 bk_59 ?_
                refine ca_vXv h hG ml_X12_371 (c_X12_expect hs (q := qc) (by rw [up_s]; exact hX9) (a := 4) (by decide) (by decide) (by decide)) (ci := 12) rfl rfl rfl (hs.1 _ _ _ ⟨rfl, rfl⟩) rfl rfl rfl rfl ⟨Nat.le_refl _, Nat.le_refl _⟩ rfl dX12_load_89 ?_
                intro μ8 hμ8
                obtain ⟨p8, rfl, hX8, hf8⟩ := hμ8
                rw [up_up]
                rw [up_s] at hf8
                rw [hqc] at hX9 hX8
                refine ca_goto (tgt := 35) h dX12_load_92 (by decide) ?_
                refine ca_pick [0, 1] rfl ?_
                have ecl : l_cl (q, m) = l_rel (q, m) := by rw [l_cl_e, if_neg (fun z => bI_n0.mpr z c_55), if_pos (bI_n0.mp c_72)]
                rw [← ecl] at hX9 hD9 hX8
                have hgo : t_go q = true := by rw [t_go_e hXq]; exact decide_eq_true ⟨c_39, Classical.byContradiction fun z => c_46 ((r_tok0 hXq).mpr z)⟩
                have hmo := mo_cl q m hXq.2.1
                have hgn : r_tg (nw (μ 16) 22 0 6 0) p8 := r_tg_tr (r_tg_tr hgp hg9) (r_tg_tf hf8)
                exact ih_35 (j + 1) (by omega) (t_exp (l_cl (q, m)).1 4) (l_cl (q, m)).2 p8 hX8 hgn (fun z => by
                  obtain ⟨z1, -, -⟩ := mo_exp hmo.2.2 (by decide) z
                  rw [hf8.1 24 (by decide)]
                  exact hD9 z1) (fun z => by
                  obtain ⟨z1, z2, z3⟩ := mo_exp hmo.2.2 (by decide) z
                  have := hfu c_39
                  have := hmo.1
                  have := hmo.2.1
                  omega) (by rw [heq, l_nL_s, if_pos hgo]) _ rfl
            ·
              refine ca_aload_nr h dX12_load_58 rfl ?_
              refine ca_vXv h hG ml_X12_360 (c_X12_readCell hs (q := q) (n := m) (by rw [up_s]; exact hXq) (by rw [up_s]; exact hDq c_39) c_39) (ci := 12) rfl rfl rfl (hs.1 _ _ _ ⟨rfl, rfl⟩) rfl rfl rfl rfl ⟨Nat.le_refl _, Nat.le_refl _⟩ rfl dX12_load_59 ?_
              intro μ9 hμ9
              obtain ⟨p9, rfl, hX9, hg9, hD9⟩ := hμ9
              rw [up_up]
              rw [up_s] at hg9
              obtain ⟨qc, hqc⟩ : ∃ z, z = (l_cell (q, m)).1 := ⟨_, rfl⟩
              rw [← hqc] at hX9
              refine ca_goto (tgt := 86) h dX12_load_62 (by decide) ?_
              refine ca_aload_nr h dX12_load_86 rfl ?_
              refine ca_bipush h dX12_load_87 bk_59 ?_
              refine ca_vXv h hG ml_X12_371 (c_X12_expect hs (q := qc) (by rw [up_s]; exact hX9) (a := 4) (by decide) (by decide) (by decide)) (ci := 12) rfl rfl rfl (hs.1 _ _ _ ⟨rfl, rfl⟩) rfl rfl rfl rfl ⟨Nat.le_refl _, Nat.le_refl _⟩ rfl dX12_load_89 ?_
              intro μ8 hμ8
              obtain ⟨p8, rfl, hX8, hf8⟩ := hμ8
              rw [up_up]
              rw [up_s] at hf8
              rw [hqc] at hX9 hX8
              refine ca_goto (tgt := 35) h dX12_load_92 (by decide) ?_
              refine ca_pick [0, 1] rfl ?_
              have ecl : l_cl (q, m) = l_cell (q, m) := by rw [l_cl_e, if_pos (bI_n0.mp c_55)]
              rw [← ecl] at hX9 hD9 hX8
              have hgo : t_go q = true := by rw [t_go_e hXq]; exact decide_eq_true ⟨c_39, Classical.byContradiction fun z => c_46 ((r_tok0 hXq).mpr z)⟩
              have hmo := mo_cl q m hXq.2.1
              have hgn : r_tg (nw (μ 16) 22 0 6 0) p8 := r_tg_tr (r_tg_tr hgp hg9) (r_tg_tf hf8)
              exact ih_35 (j + 1) (by omega) (t_exp (l_cl (q, m)).1 4) (l_cl (q, m)).2 p8 hX8 hgn (fun z => by
                obtain ⟨z1, -, -⟩ := mo_exp hmo.2.2 (by decide) z
                rw [hf8.1 24 (by decide)]
                exact hD9 z1) (fun z => by
                obtain ⟨z1, z2, z3⟩ := mo_exp hmo.2.2 (by decide) z
                have := hfu c_39
                have := hmo.1
                have := hmo.2.1
                omega) (by rw [heq, l_nL_s, if_pos hgo]) _ rfl
    refine ca_pick [0, 1] rfl ?_
    exact loop_35 700 0 (Nat.zero_add _) (t_open tx (nI e)) (k_clear tr) p0 hX0 hg0 (fun _ => by rw [hd0]; exact r_D_clr h5) (fun _ => by have := t_tw (q := tx) he7; omega) (l_net_e _ _) _ rfl
  · exact absurd (show (¬ nI e < 0 ∧ ¬ nI L < nI e) from ⟨nI_pos (by omega), nI_nlt (by omega) (by omega)⟩) (of_decide_eq_false (bI_0.mp c_14))
set_option maxHeartbeats 400000 in
theorem c_X12_load {l : Launch} {E : ch_E} {S : ch_S} {μ : ch_M} (hs : ch_Std E S) {n sn tx : ch_N} {F : Int32} {u : Nat} {hst : Nat → ch_N} (hJ : r_J n sn tx F u hst (μ 16)) {tr : ch_N} (h5 : ∀ i c, i < 13 → c < 8 → ¬ tr 5 i c < 0 ∧ Int32.toNatClampNeg (tr 5 i c) ≤ 8) {e L : Nat} (hL : tx 12 0 0 = nI L) (heL : e ≤ L) (hL7 : L ≤ 700) (he : (l_net (t_open tx (nI e), tr)).1 12 0 1 = 0) : ch_C E l yX12_load cX12_load 2 (some FieldType.int) 8 0 0 S μ [.ref (S.1 16 22 0), .int (nI e)] (r_A (some (.int ((l_net (t_open tx (nI e), tr)).2 0 0 0))) 0 (l_net (t_open tx (nI e), tr)).2 sn (t_close (l_net (t_open tx (nI e), tr)).1) F 0 hst S μ) := by
  refine ch_enter rfl rfl ?_
  intro X hl0 h hG hR hnm
  have h : ch_H X E RX12 cX12_load 2 := h
  have hN := hJ.1
  obtain ⟨L', hL1, hL2, hL3, hL4, hL5⟩ := hJ.2.2.2
  have eLL : L' = L := (nI_eq (by omega) (by omega)).mp (hL2.symm.trans hL)
  have he7 : e ≤ 700 := by omega
  show ch_W X E 2 S μ 0 0 0 [(0, .ref (S.1 16 22 0)), (1, .int (nI e))] []
  refine ca_aload_nr h dX12_load_0 rfl ?_
  refine ca_iconst h dX12_load_1 ik_0 ?_
  refine pi_X12_70 h (hs.1 _ _ _ ⟨rfl, rfl⟩) dX12_load_2 ?_
  refine ca_mem (μ'' := up μ 16 (nw (μ 16) 22 0 6 0)) rfl ?_
  refine ca_iload_n h dX12_load_5 rfl ?_
  refine ca_iconst h dX12_load_6 ik_0 ?_
  refine ca_aload_nr h dX12_load_7 rfl ?_
  refine gi_X12_277 h (hs.1 _ _ _ ⟨rfl, rfl⟩) dX12_load_8 ?_
  refine ca_top (show _ = nI L by rw [up_s, nw_at, if_neg (by omega), hL3, eLL]) ?_
  refine ca_si h hG ms_X12_73 (c_X12_inRange) rfl rfl rfl rfl ⟨Nat.le_refl _, Nat.le_refl _⟩ rfl dX12_load_11 ?_
  refine ca_if_ne (tgt := 23) h dX12_load_14 (by decide) (fun c_14 => ?_) (fun c_14 => ?_)
  ·
    refine ca_aload_nr h dX12_load_23 rfl ?_
    refine gs_X12_13 h hs ⟨rfl, rfl⟩ dX12_load_24 ?_
    refine ca_sv h hG ms_X12_66 (c_X12_clear (hs.1 16 24 0 ⟨rfl, rfl⟩) rfl) rfl rfl rfl rfl ⟨Nat.le_refl _, Nat.le_refl _⟩ rfl dX12_load_27 ?_
    refine ca_aload_nr h dX12_load_30 rfl ?_
    refine ca_iload_n h dX12_load_31 rfl ?_
    refine ca_vXv h hG ml_X12_357 (c_X12_start hs (q := tx) (e := e) he7 (fun i hi => by rw [up_s, na_k (by decide), up_s, nw_k (by decide)]; exact hL4 i (by omega))) (ci := 12) rfl rfl rfl (hs.1 _ _ _ ⟨rfl, rfl⟩) rfl rfl rfl rfl ⟨Nat.le_refl _, Nat.le_refl _⟩ rfl dX12_load_32 ?_
    intro μ9 hμ9
    obtain ⟨p0, rfl, hX0, hf0⟩ := hμ9
    rw [up_up, up_up]
    rw [up_s, up_s] at hf0
    have hd0 : p0 24 0 = r_clrW (μ 16 24 0) := by rw [hf0.1 24 (by decide), nw_k (by decide), na_fn, nw_k (by decide)]
    have hg0 : r_tg (nw (μ 16) 22 0 6 0) p0 := r_tg_tr (r_tg_tr ⟨fun kd h1 h2 => na_k h2, fun j _ => by rw [na_k (by decide)]⟩ ⟨fun kd h1 h2 => nw_k h1, fun j hj => by rw [nw_at, if_neg (by omega)]⟩) (r_tg_tf hf0)
    have loop_35 : ∀ (jj j : Nat), j + jj = 700 → ∀ (q : ch_N) (m : ch_N) (p : ch_N) (hXq : r_X1 q p) (hgp : r_tg (nw (μ 16) 22 0 6 0) p) (hDq : q 12 0 1 = 0 → r_D m (p 24 0)) (hfu : q 12 0 1 = 0 → t_e q - t_s q ≤ jj) (heq : (l_net (t_open tx (nI e), tr)) = l_nL jj (q, m)) (mm : ch_M) (em : mm = up μ 16 p), ch_W X E 2 S mm 0 0 35 [(0, .ref (S.1 16 22 0)), (1, .int (nI e))] [] := by
      intro jj
      induction jj with
      | zero =>
        intro j hn q m p hXq hgp hDq hfu heq mm em
        have hn : j = 700 := by omega
        subst em
        refine ca_aload_nr h dX12_load_35 rfl ?_
        refine gi_X12_301 h (hs.1 _ _ _ ⟨rfl, rfl⟩) dX12_load_36 ?_
        refine ca_top (show _ = q 12 0 1 by rw [up_s]; exact hXq.1.2.2.1) ?_
        refine ca_if_ne (tgt := 95) h dX12_load_39 (by decide) (fun c_39 => ?_) (fun c_39 => ?_)
        ·
          have eqm : (l_net (t_open tx (nI e), tr)) = (q, m) := heq
          have e1 : (l_net (t_open tx (nI e), tr)).1 = q := by rw [eqm]
          have e2 : (l_net (t_open tx (nI e), tr)).2 = m := by rw [eqm]
          refine ca_aload_nr h dX12_load_95 rfl ?_
          refine ca_vi h hG ml_X12_374 (c_X12_finish_ hs (q := q) (by rw [up_s]; exact hXq)) (ci := 12) rfl rfl rfl (hs.1 _ _ _ ⟨rfl, rfl⟩) rfl rfl rfl rfl ⟨Nat.le_refl _, Nat.le_refl _⟩ rfl dX12_load_96 ?_
          rw [up_s, up_up]
          refine ca_if_eq (tgt := 110) h dX12_load_99 (by decide) (fun c_99 => ?_) (fun c_99 => ?_)
          ·
            refine ca_aload_nr h dX12_load_110 rfl ?_
            refine gs_X12_13 h hs ⟨rfl, rfl⟩ dX12_load_111 ?_
            refine ca_iconst h dX12_load_114 ik_0 ?_
            refine ca_aload_nr h dX12_load_115 rfl ?_
            refine gs_X12_9 h hs ⟨rfl, rfl⟩ dX12_load_116 ?_
            refine ca_iconst h dX12_load_119 ik_0 ?_
            refine ca_sv h hG ms_X12_266 (c_X12_copy (kd := 24) (kd2 := 23) (a := 0) (b := 0) (hs.1 16 24 0 ⟨rfl, rfl⟩) (hs.1 16 23 0 ⟨rfl, rfl⟩) rfl rfl (by omega) (by omega) (by decide) (by decide) (Or.inl (by decide))) rfl rfl rfl rfl ⟨Nat.le_refl _, Nat.le_refl _⟩ rfl dX12_load_120 ?_
            refine ca_aload_nr h dX12_load_123 rfl ?_
            refine ca_iconst h dX12_load_124 ik_0 ?_
            refine pi_X12_270 h (hs.1 _ _ _ ⟨rfl, rfl⟩) dX12_load_125 ?_
            refine ca_mem (μ'' := up μ 16 (nw (na (nw (nw p 22 0 12 0) 22 0 19 (if q 12 0 1 = 0 then -1 else q 12 0 5)) 23 0 (r_cpy (p 23 0) 0 (fun j => p 24 0 (1302 * 0 + j)) 1302)) 22 0 5 0)) (by rw [ch_st_nw, r_cm_16, up_s, up_s, up_up, up_up, nw_k (by decide), nw_k (by decide), nw_k (by decide), nw_k (by decide)]) ?_
            refine ca_aload_nr h dX12_load_128 rfl ?_
            refine gs_X12_9 h hs ⟨rfl, rfl⟩ dX12_load_129 ?_
            refine ca_iconst h dX12_load_132 ik_0 ?_
            refine ca_iald h rfl (hs.1 _ _ _ ⟨rfl, rfl⟩) (vp_in_nI (n := 0) (N := 1302) (by decide) (by decide)) dX12_load_133 ?_
            refine ca_top (show _ = m 0 0 0 by rw [show Int32.toNatClampNeg 0 = 0 from rfl, up_s, nw_k (by decide), na_fn, r_cpy_r0 _ _ (by decide), Nat.mul_zero]; exact (hDq (by rw [← e1]; exact he)).1.1 0 (by decide)) ?_
            refine ca_ireturn h hR rfl dX12_load_134 ?_
            refine ⟨by rw [e2], rfl, _, rfl, ?_, ?_⟩
            · rw [nw_at, if_neg (by omega), na_k (by decide), nw_at, if_neg (by omega), nw_at, if_neg (by omega), hgp.2 6 (by omega)]; exact (show (nw (μ 16) 22 0 6 0) 22 0 6 = 0 by rw [nw_at, if_pos ⟨rfl, rfl, rfl⟩])
            · rw [e1, e2]
              refine r_J_mk2 (r_J_close (q := q) (r_J_tg (r_J_th hJ) hgp)) ?_ (by rw [nw_at, if_pos ⟨rfl, rfl, rfl⟩]; rfl) (Nat.zero_le _) (by rw [nw_at, if_neg (by omega), na_k (by decide)]) (by rw [nw_at, if_neg (by omega), na_k (by decide)]) (by rw [nw_at, if_neg (by omega), na_k (by decide)]) (by rw [nw_k (by decide), na_k (by decide)]) (by rw [nw_k (by decide), na_k (by decide)]) (by rw [nw_k (by decide), na_k (by decide)])
              rw [nw_k (by decide), na_fn]
              refine r_N_row (hDq (by rw [← e1]; exact he)).1 (fun j hj => ?_)
              rw [r_cpy_r0 _ _ hj, Nat.mul_zero, Nat.zero_add]
          · exact absurd (by rw [← e1]; exact he) c_99
        ·
          refine ca_aload_nr h dX12_load_42 rfl ?_
          refine gi_X12_292 h (hs.1 _ _ _ ⟨rfl, rfl⟩) dX12_load_43 ?_
          refine ca_top (show _ = r_tok (q 12 0 7) by rw [up_s]; exact hXq.2.2.2.1) ?_
          refine ca_if_eq (tgt := 95) h dX12_load_46 (by decide) (fun c_46 => ?_) (fun c_46 => ?_)
          ·
            have eqm : (l_net (t_open tx (nI e), tr)) = (q, m) := heq
            have e1 : (l_net (t_open tx (nI e), tr)).1 = q := by rw [eqm]
            have e2 : (l_net (t_open tx (nI e), tr)).2 = m := by rw [eqm]
            refine ca_aload_nr h dX12_load_95 rfl ?_
            refine ca_vi h hG ml_X12_374 (c_X12_finish_ hs (q := q) (by rw [up_s]; exact hXq)) (ci := 12) rfl rfl rfl (hs.1 _ _ _ ⟨rfl, rfl⟩) rfl rfl rfl rfl ⟨Nat.le_refl _, Nat.le_refl _⟩ rfl dX12_load_96 ?_
            rw [up_s, up_up]
            refine ca_if_eq (tgt := 110) h dX12_load_99 (by decide) (fun c_99 => ?_) (fun c_99 => ?_)
            ·
              refine ca_aload_nr h dX12_load_110 rfl ?_
              refine gs_X12_13 h hs ⟨rfl, rfl⟩ dX12_load_111 ?_
              refine ca_iconst h dX12_load_114 ik_0 ?_
              refine ca_aload_nr h dX12_load_115 rfl ?_
              refine gs_X12_9 h hs ⟨rfl, rfl⟩ dX12_load_116 ?_
              refine ca_iconst h dX12_load_119 ik_0 ?_
              refine ca_sv h hG ms_X12_266 (c_X12_copy (kd := 24) (kd2 := 23) (a := 0) (b := 0) (hs.1 16 24 0 ⟨rfl, rfl⟩) (hs.1 16 23 0 ⟨rfl, rfl⟩) rfl rfl (by omega) (by omega) (by decide) (by decide) (Or.inl (by decide))) rfl rfl rfl rfl ⟨Nat.le_refl _, Nat.le_refl _⟩ rfl dX12_load_120 ?_
              refine ca_aload_nr h dX12_load_123 rfl ?_
              refine ca_iconst h dX12_load_124 ik_0 ?_
              refine pi_X12_270 h (hs.1 _ _ _ ⟨rfl, rfl⟩) dX12_load_125 ?_
              refine ca_mem (μ'' := up μ 16 (nw (na (nw (nw p 22 0 12 0) 22 0 19 (if q 12 0 1 = 0 then -1 else q 12 0 5)) 23 0 (r_cpy (p 23 0) 0 (fun j => p 24 0 (1302 * 0 + j)) 1302)) 22 0 5 0)) (by rw [ch_st_nw, r_cm_16, up_s, up_s, up_up, up_up, nw_k (by decide), nw_k (by decide), nw_k (by decide), nw_k (by decide)]) ?_
              refine ca_aload_nr h dX12_load_128 rfl ?_
              refine gs_X12_9 h hs ⟨rfl, rfl⟩ dX12_load_129 ?_
              refine ca_iconst h dX12_load_132 ik_0 ?_
              refine ca_iald h rfl (hs.1 _ _ _ ⟨rfl, rfl⟩) (vp_in_nI (n := 0) (N := 1302) (by decide) (by decide)) dX12_load_133 ?_
              refine ca_top (show _ = m 0 0 0 by rw [show Int32.toNatClampNeg 0 = 0 from rfl, up_s, nw_k (by decide), na_fn, r_cpy_r0 _ _ (by decide), Nat.mul_zero]; exact (hDq (by rw [← e1]; exact he)).1.1 0 (by decide)) ?_
              refine ca_ireturn h hR rfl dX12_load_134 ?_
              refine ⟨by rw [e2], rfl, _, rfl, ?_, ?_⟩
              · rw [nw_at, if_neg (by omega), na_k (by decide), nw_at, if_neg (by omega), nw_at, if_neg (by omega), hgp.2 6 (by omega)]; exact (show (nw (μ 16) 22 0 6 0) 22 0 6 = 0 by rw [nw_at, if_pos ⟨rfl, rfl, rfl⟩])
              · rw [e1, e2]
                refine r_J_mk2 (r_J_close (q := q) (r_J_tg (r_J_th hJ) hgp)) ?_ (by rw [nw_at, if_pos ⟨rfl, rfl, rfl⟩]; rfl) (Nat.zero_le _) (by rw [nw_at, if_neg (by omega), na_k (by decide)]) (by rw [nw_at, if_neg (by omega), na_k (by decide)]) (by rw [nw_at, if_neg (by omega), na_k (by decide)]) (by rw [nw_k (by decide), na_k (by decide)]) (by rw [nw_k (by decide), na_k (by decide)]) (by rw [nw_k (by decide), na_k (by decide)])
                rw [nw_k (by decide), na_fn]
                refine r_N_row (hDq (by rw [← e1]; exact he)).1 (fun j hj => ?_)
                rw [r_cpy_r0 _ _ hj, Nat.mul_zero, Nat.zero_add]
            · exact absurd (by rw [← e1]; exact he) c_99
          · exact absurd ((r_tok0 hXq).mpr (by have := hfu c_39; omega)) c_46
      | succ jj ih_35 =>
        intro j hn q m p hXq hgp hDq hfu heq mm em
        have hn1 : j < 700 := by omega
        subst em
        refine ca_aload_nr h dX12_load_35 rfl ?_
        refine gi_X12_301 h (hs.1 _ _ _ ⟨rfl, rfl⟩) dX12_load_36 ?_
        refine ca_top (show _ = q 12 0 1 by rw [up_s]; exact hXq.1.2.2.1) ?_
        refine ca_if_ne (tgt := 95) h dX12_load_39 (by decide) (fun c_39 => ?_) (fun c_39 => ?_)
        ·
          have eqm : (l_net (t_open tx (nI e), tr)) = (q, m) := by rw [heq, l_nL_s, if_neg (by rw [t_go_e hXq]; exact fun z => c_39 (of_decide_eq_true z).1)]
          have e1 : (l_net (t_open tx (nI e), tr)).1 = q := by rw [eqm]
          have e2 : (l_net (t_open tx (nI e), tr)).2 = m := by rw [eqm]
          refine ca_aload_nr h dX12_load_95 rfl ?_
          refine ca_vi h hG ml_X12_374 (c_X12_finish_ hs (q := q) (by rw [up_s]; exact hXq)) (ci := 12) rfl rfl rfl (hs.1 _ _ _ ⟨rfl, rfl⟩) rfl rfl rfl rfl ⟨Nat.le_refl _, Nat.le_refl _⟩ rfl dX12_load_96 ?_
          rw [up_s, up_up]
          refine ca_if_eq (tgt := 110) h dX12_load_99 (by decide) (fun c_99 => ?_) (fun c_99 => ?_)
          ·
            refine ca_aload_nr h dX12_load_110 rfl ?_
            refine gs_X12_13 h hs ⟨rfl, rfl⟩ dX12_load_111 ?_
            refine ca_iconst h dX12_load_114 ik_0 ?_
            refine ca_aload_nr h dX12_load_115 rfl ?_
            refine gs_X12_9 h hs ⟨rfl, rfl⟩ dX12_load_116 ?_
            refine ca_iconst h dX12_load_119 ik_0 ?_
            refine ca_sv h hG ms_X12_266 (c_X12_copy (kd := 24) (kd2 := 23) (a := 0) (b := 0) (hs.1 16 24 0 ⟨rfl, rfl⟩) (hs.1 16 23 0 ⟨rfl, rfl⟩) rfl rfl (by omega) (by omega) (by decide) (by decide) (Or.inl (by decide))) rfl rfl rfl rfl ⟨Nat.le_refl _, Nat.le_refl _⟩ rfl dX12_load_120 ?_
            refine ca_aload_nr h dX12_load_123 rfl ?_
            refine ca_iconst h dX12_load_124 ik_0 ?_
            refine pi_X12_270 h (hs.1 _ _ _ ⟨rfl, rfl⟩) dX12_load_125 ?_
            refine ca_mem (μ'' := up μ 16 (nw (na (nw (nw p 22 0 12 0) 22 0 19 (if q 12 0 1 = 0 then -1 else q 12 0 5)) 23 0 (r_cpy (p 23 0) 0 (fun j => p 24 0 (1302 * 0 + j)) 1302)) 22 0 5 0)) (by rw [ch_st_nw, r_cm_16, up_s, up_s, up_up, up_up, nw_k (by decide), nw_k (by decide), nw_k (by decide), nw_k (by decide)]) ?_
            refine ca_aload_nr h dX12_load_128 rfl ?_
            refine gs_X12_9 h hs ⟨rfl, rfl⟩ dX12_load_129 ?_
            refine ca_iconst h dX12_load_132 ik_0 ?_
            refine ca_iald h rfl (hs.1 _ _ _ ⟨rfl, rfl⟩) (vp_in_nI (n := 0) (N := 1302) (by decide) (by decide)) dX12_load_133 ?_
            refine ca_top (show _ = m 0 0 0 by rw [show Int32.toNatClampNeg 0 = 0 from rfl, up_s, nw_k (by decide), na_fn, r_cpy_r0 _ _ (by decide), Nat.mul_zero]; exact (hDq (by rw [← e1]; exact he)).1.1 0 (by decide)) ?_
            refine ca_ireturn h hR rfl dX12_load_134 ?_
            refine ⟨by rw [e2], rfl, _, rfl, ?_, ?_⟩
            · rw [nw_at, if_neg (by omega), na_k (by decide), nw_at, if_neg (by omega), nw_at, if_neg (by omega), hgp.2 6 (by omega)]; exact (show (nw (μ 16) 22 0 6 0) 22 0 6 = 0 by rw [nw_at, if_pos ⟨rfl, rfl, rfl⟩])
            · rw [e1, e2]
              refine r_J_mk2 (r_J_close (q := q) (r_J_tg (r_J_th hJ) hgp)) ?_ (by rw [nw_at, if_pos ⟨rfl, rfl, rfl⟩]; rfl) (Nat.zero_le _) (by rw [nw_at, if_neg (by omega), na_k (by decide)]) (by rw [nw_at, if_neg (by omega), na_k (by decide)]) (by rw [nw_at, if_neg (by omega), na_k (by decide)]) (by rw [nw_k (by decide), na_k (by decide)]) (by rw [nw_k (by decide), na_k (by decide)]) (by rw [nw_k (by decide), na_k (by decide)])
              rw [nw_k (by decide), na_fn]
              refine r_N_row (hDq (by rw [← e1]; exact he)).1 (fun j hj => ?_)
              rw [r_cpy_r0 _ _ hj, Nat.mul_zero, Nat.zero_add]
          · exact absurd (by rw [← e1]; exact he) c_99
        ·
          refine ca_aload_nr h dX12_load_42 rfl ?_
          refine gi_X12_292 h (hs.1 _ _ _ ⟨rfl, rfl⟩) dX12_load_43 ?_
          refine ca_top (show _ = r_tok (q 12 0 7) by rw [up_s]; exact hXq.2.2.2.1) ?_
          refine ca_if_eq (tgt := 95) h dX12_load_46 (by decide) (fun c_46 => ?_) (fun c_46 => ?_)
          ·
            have eqm : (l_net (t_open tx (nI e), tr)) = (q, m) := by rw [heq, l_nL_s, if_neg (by rw [t_go_e hXq]; exact fun z => (r_tok0 hXq).mp c_46 (of_decide_eq_true z).2)]
            have e1 : (l_net (t_open tx (nI e), tr)).1 = q := by rw [eqm]
            have e2 : (l_net (t_open tx (nI e), tr)).2 = m := by rw [eqm]
            refine ca_aload_nr h dX12_load_95 rfl ?_
            refine ca_vi h hG ml_X12_374 (c_X12_finish_ hs (q := q) (by rw [up_s]; exact hXq)) (ci := 12) rfl rfl rfl (hs.1 _ _ _ ⟨rfl, rfl⟩) rfl rfl rfl rfl ⟨Nat.le_refl _, Nat.le_refl _⟩ rfl dX12_load_96 ?_
            rw [up_s, up_up]
            refine ca_if_eq (tgt := 110) h dX12_load_99 (by decide) (fun c_99 => ?_) (fun c_99 => ?_)
            ·
              refine ca_aload_nr h dX12_load_110 rfl ?_
              refine gs_X12_13 h hs ⟨rfl, rfl⟩ dX12_load_111 ?_
              refine ca_iconst h dX12_load_114 ik_0 ?_
              refine ca_aload_nr h dX12_load_115 rfl ?_
              refine gs_X12_9 h hs ⟨rfl, rfl⟩ dX12_load_116 ?_
              refine ca_iconst h dX12_load_119 ik_0 ?_
              refine ca_sv h hG ms_X12_266 (c_X12_copy (kd := 24) (kd2 := 23) (a := 0) (b := 0) (hs.1 16 24 0 ⟨rfl, rfl⟩) (hs.1 16 23 0 ⟨rfl, rfl⟩) rfl rfl (by omega) (by omega) (by decide) (by decide) (Or.inl (by decide))) rfl rfl rfl rfl ⟨Nat.le_refl _, Nat.le_refl _⟩ rfl dX12_load_120 ?_
              refine ca_aload_nr h dX12_load_123 rfl ?_
              refine ca_iconst h dX12_load_124 ik_0 ?_
              refine pi_X12_270 h (hs.1 _ _ _ ⟨rfl, rfl⟩) dX12_load_125 ?_
              refine ca_mem (μ'' := up μ 16 (nw (na (nw (nw p 22 0 12 0) 22 0 19 (if q 12 0 1 = 0 then -1 else q 12 0 5)) 23 0 (r_cpy (p 23 0) 0 (fun j => p 24 0 (1302 * 0 + j)) 1302)) 22 0 5 0)) (by rw [ch_st_nw, r_cm_16, up_s, up_s, up_up, up_up, nw_k (by decide), nw_k (by decide), nw_k (by decide), nw_k (by decide)]) ?_
              refine ca_aload_nr h dX12_load_128 rfl ?_
              refine gs_X12_9 h hs ⟨rfl, rfl⟩ dX12_load_129 ?_
              refine ca_iconst h dX12_load_132 ik_0 ?_
              refine ca_iald h rfl (hs.1 _ _ _ ⟨rfl, rfl⟩) (vp_in_nI (n := 0) (N := 1302) (by decide) (by decide)) dX12_load_133 ?_
              refine ca_top (show _ = m 0 0 0 by rw [show Int32.toNatClampNeg 0 = 0 from rfl, up_s, nw_k (by decide), na_fn, r_cpy_r0 _ _ (by decide), Nat.mul_zero]; exact (hDq (by rw [← e1]; exact he)).1.1 0 (by decide)) ?_
              refine ca_ireturn h hR rfl dX12_load_134 ?_
              refine ⟨by rw [e2], rfl, _, rfl, ?_, ?_⟩
              · rw [nw_at, if_neg (by omega), na_k (by decide), nw_at, if_neg (by omega), nw_at, if_neg (by omega), hgp.2 6 (by omega)]; exact (show (nw (μ 16) 22 0 6 0) 22 0 6 = 0 by rw [nw_at, if_pos ⟨rfl, rfl, rfl⟩])
              · rw [e1, e2]
                refine r_J_mk2 (r_J_close (q := q) (r_J_tg (r_J_th hJ) hgp)) ?_ (by rw [nw_at, if_pos ⟨rfl, rfl, rfl⟩]; rfl) (Nat.zero_le _) (by rw [nw_at, if_neg (by omega), na_k (by decide)]) (by rw [nw_at, if_neg (by omega), na_k (by decide)]) (by rw [nw_at, if_neg (by omega), na_k (by decide)]) (by rw [nw_k (by decide), na_k (by decide)]) (by rw [nw_k (by decide), na_k (by decide)]) (by rw [nw_k (by decide), na_k (by decide)])
                rw [nw_k (by decide), na_fn]
                refine r_N_row (hDq (by rw [← e1]; exact he)).1 (fun j hj => ?_)
                rw [r_cpy_r0 _ _ hj, Nat.mul_zero, Nat.zero_add]
            · exact absurd (by rw [← e1]; exact he) c_99
          ·
            refine ca_aload_nr h dX12_load_49 rfl ?_
            refine ca_ldcs h (i := 48) (List.mem_of_getElem? (i := 30) rfl) dX12_load_50 ?_
            refine ca_vi h hG ml_X12_324 (c_X12_isWord hs (q := q) (by rw [up_s]; exact hXq) (a := 1) (by decide) (by decide) (by decide)) (ci := 12) rfl rfl rfl (hs.1 _ _ _ ⟨rfl, rfl⟩) rfl rfl rfl rfl ⟨Nat.le_refl _, Nat.le_refl _⟩ rfl dX12_load_52 ?_
            refine ca_if_eq (tgt := 65) h dX12_load_55 (by decide) (fun c_55 => ?_) (fun c_55 => ?_)
            ·
              refine ca_aload_nr h dX12_load_65 rfl ?_
              refine ca_ldcws h (i := 363) (List.mem_of_getElem? (i := 34) rfl) dX12_load_66 ?_
              refine ca_vi h hG ml_X12_324 (c_X12_isWord hs (q := q) (by rw [up_s]; exact hXq) (a := 2) (by decide) (by decide) (by decide)) (ci := 12) rfl rfl rfl (hs.1 _ _ _ ⟨rfl, rfl⟩) rfl rfl rfl rfl ⟨Nat.le_refl _, Nat.le_refl _⟩ rfl dX12_load_69 ?_
              refine ca_if_eq (tgt := 82) h dX12_load_72 (by decide) (fun c_72 => ?_) (fun c_72 => ?_)
              ·
                refine ca_aload_nr h dX12_load_82 rfl ?_
                refine ca_vXv h hG ml_X12_368 (c_X12_readSettings hs (q := q) (n := m) (by rw [up_s]; exact hXq) (by rw [up_s]; exact hDq c_39) c_39) (ci := 12) rfl rfl rfl (hs.1 _ _ _ ⟨rfl, rfl⟩) rfl rfl rfl rfl ⟨Nat.le_refl _, Nat.le_refl _⟩ rfl dX12_load_83 ?_
                intro μ9 hμ9
                obtain ⟨p9, rfl, hX9, hg9, hD9⟩ := hμ9
                rw [up_up]
                rw [up_s] at hg9
                obtain ⟨qc, hqc⟩ : ∃ z, z = (if t_is q 3 = true then l_set (q, m) else (t_fail q 1, m)).1 := ⟨_, rfl⟩
                rw [← hqc] at hX9
                refine ca_aload_nr h dX12_load_86 rfl ?_
                refine ca_bipush h dX12_load_87 bk_59 ?_
                refine ca_vXv h hG ml_X12_371 (c_X12_expect hs (q := qc) (by rw [up_s]; exact hX9) (a := 4) (by decide) (by decide) (by decide)) (ci := 12) rfl rfl rfl (hs.1 _ _ _ ⟨rfl, rfl⟩) rfl rfl rfl rfl ⟨Nat.le_refl _, Nat.le_refl _⟩ rfl dX12_load_89 ?_
                intro μ8 hμ8
                obtain ⟨p8, rfl, hX8, hf8⟩ := hμ8
                rw [up_up]
                rw [up_s] at hf8
                rw [hqc] at hX9 hX8
                refine ca_goto (tgt := 35) h dX12_load_92 (by decide) ?_
                refine ca_pick [0, 1] rfl ?_
                have ecl : l_cl (q, m) = (if t_is q 3 = true then l_set (q, m) else (t_fail q 1, m)) := by rw [l_cl_e, if_neg (fun z => bI_n0.mpr z c_55), if_neg (fun z => bI_n0.mpr z c_72)]
                rw [← ecl] at hX9 hD9 hX8
                have hgo : t_go q = true := by rw [t_go_e hXq]; exact decide_eq_true ⟨c_39, Classical.byContradiction fun z => c_46 ((r_tok0 hXq).mpr z)⟩
                have hmo := mo_cl q m hXq.2.1
                have hgn : r_tg (nw (μ 16) 22 0 6 0) p8 := r_tg_tr (r_tg_tr hgp hg9) (r_tg_tf hf8)
                exact ih_35 (j + 1) (by omega) (t_exp (l_cl (q, m)).1 4) (l_cl (q, m)).2 p8 hX8 hgn (fun z => by
                  obtain ⟨z1, -, -⟩ := mo_exp hmo.2.2 (by decide) z
                  rw [hf8.1 24 (by decide)]
                  exact hD9 z1) (fun z => by
                  obtain ⟨z1, z2, z3⟩ := mo_exp hmo.2.2 (by decide) z
                  have := hfu c_39
                  have := hmo.1
                  have := hmo.2.1
                  omega) (by rw [heq, l_nL_s, if_pos hgo]) _ rfl
              ·
                refine ca_aload_nr h dX12_load_75 rfl ?_
                refine ca_vXv h hG ml_X12_365 (c_X12_readRelation hs (q := q) (n := m) (by rw [up_s]; exact hXq) (by rw [up_s]; exact hDq c_39) c_39) (ci := 12) rfl rfl rfl (hs.1 _ _ _ ⟨rfl, rfl⟩) rfl rfl rfl rfl ⟨Nat.le_refl _, Nat.le_refl _⟩ rfl dX12_load_76 ?_
                intro μ9 hμ9
                obtain ⟨p9, rfl, hX9, hg9, hD9⟩ := hμ9
                rw [up_up]
                rw [up_s] at hg9
                obtain ⟨qc, hqc⟩ : ∃ z, z = (l_rel (q, m)).1 := ⟨_, rfl⟩
                rw [← hqc] at hX9
                refine ca_goto (tgt := 86) h dX12_load_79 (by decide) ?_
                refine ca_aload_nr h dX12_load_86 rfl ?_
                refine ca_bipush h dX12_load_87 bk_59 ?_
                refine ca_vXv h hG ml_X12_371 (c_X12_expect hs (q := qc) (by rw [up_s]; exact hX9) (a := 4) (by decide) (by decide) (by decide)) (ci := 12) rfl rfl rfl (hs.1 _ _ _ ⟨rfl, rfl⟩) rfl rfl rfl rfl ⟨Nat.le_refl _, Nat.le_refl _⟩ rfl dX12_load_89 ?_
                intro μ8 hμ8
                obtain ⟨p8, rfl, hX8, hf8⟩ := hμ8
                rw [up_up]
                rw [up_s] at hf8
                rw [hqc] at hX9 hX8
                refine ca_goto (tgt := 35) h dX12_load_92 (by decide) ?_
                refine ca_pick [0, 1] rfl ?_
                have ecl : l_cl (q, m) = l_rel (q, m) := by rw [l_cl_e, if_neg (fun z => bI_n0.mpr z c_55), if_pos (bI_n0.mp c_72)]
                rw [← ecl] at hX9 hD9 hX8
                have hgo : t_go q = true := by rw [t_go_e hXq]; exact decide_eq_true ⟨c_39, Classical.byContradiction fun z => c_46 ((r_tok0 hXq).mpr z)⟩
                have hmo := mo_cl q m hXq.2.1
                have hgn : r_tg (nw (μ 16) 22 0 6 0) p8 := r_tg_tr (r_tg_tr hgp hg9) (r_tg_tf hf8)
                exact ih_35 (j + 1) (by omega) (t_exp (l_cl (q, m)).1 4) (l_cl (q, m)).2 p8 hX8 hgn (fun z => by
                  obtain ⟨z1, -, -⟩ := mo_exp hmo.2.2 (by decide) z
                  rw [hf8.1 24 (by decide)]
                  exact hD9 z1) (fun z => by
                  obtain ⟨z1, z2, z3⟩ := mo_exp hmo.2.2 (by decide) z
                  have := hfu c_39
                  have := hmo.1
                  have := hmo.2.1
                  omega) (by rw [heq, l_nL_s, if_pos hgo]) _ rfl
            ·
              refine ca_aload_nr h dX12_load_58 rfl ?_
              refine ca_vXv h hG ml_X12_360 (c_X12_readCell hs (q := q) (n := m) (by rw [up_s]; exact hXq) (by rw [up_s]; exact hDq c_39) c_39) (ci := 12) rfl rfl rfl (hs.1 _ _ _ ⟨rfl, rfl⟩) rfl rfl rfl rfl ⟨Nat.le_refl _, Nat.le_refl _⟩ rfl dX12_load_59 ?_
              intro μ9 hμ9
              obtain ⟨p9, rfl, hX9, hg9, hD9⟩ := hμ9
              rw [up_up]
              rw [up_s] at hg9
              obtain ⟨qc, hqc⟩ : ∃ z, z = (l_cell (q, m)).1 := ⟨_, rfl⟩
              rw [← hqc] at hX9
              refine ca_goto (tgt := 86) h dX12_load_62 (by decide) ?_
              refine ca_aload_nr h dX12_load_86 rfl ?_
              refine ca_bipush h dX12_load_87 bk_59 ?_
              refine ca_vXv h hG ml_X12_371 (c_X12_expect hs (q := qc) (by rw [up_s]; exact hX9) (a := 4) (by decide) (by decide) (by decide)) (ci := 12) rfl rfl rfl (hs.1 _ _ _ ⟨rfl, rfl⟩) rfl rfl rfl rfl ⟨Nat.le_refl _, Nat.le_refl _⟩ rfl dX12_load_89 ?_
              intro μ8 hμ8
              obtain ⟨p8, rfl, hX8, hf8⟩ := hμ8
              rw [up_up]
              rw [up_s] at hf8
              rw [hqc] at hX9 hX8
              refine ca_goto (tgt := 35) h dX12_load_92 (by decide) ?_
              refine ca_pick [0, 1] rfl ?_
              have ecl : l_cl (q, m) = l_cell (q, m) := by rw [l_cl_e, if_pos (bI_n0.mp c_55)]
              rw [← ecl] at hX9 hD9 hX8
              have hgo : t_go q = true := by rw [t_go_e hXq]; exact decide_eq_true ⟨c_39, Classical.byContradiction fun z => c_46 ((r_tok0 hXq).mpr z)⟩
              have hmo := mo_cl q m hXq.2.1
              have hgn : r_tg (nw (μ 16) 22 0 6 0) p8 := r_tg_tr (r_tg_tr hgp hg9) (r_tg_tf hf8)
              exact ih_35 (j + 1) (by omega) (t_exp (l_cl (q, m)).1 4) (l_cl (q, m)).2 p8 hX8 hgn (fun z => by
                obtain ⟨z1, -, -⟩ := mo_exp hmo.2.2 (by decide) z
                rw [hf8.1 24 (by decide)]
                exact hD9 z1) (fun z => by
                obtain ⟨z1, z2, z3⟩ := mo_exp hmo.2.2 (by decide) z
                have := hfu c_39
                have := hmo.1
                have := hmo.2.1
                omega) (by rw [heq, l_nL_s, if_pos hgo]) _ rfl
    refine ca_pick [0, 1] rfl ?_
    exact loop_35 700 0 (Nat.zero_add _) (t_open tx (nI e)) (k_clear tr) p0 hX0 hg0 (fun _ => by rw [hd0]; exact r_D_clr h5) (fun _ => by have := t_tw (q := tx) he7; omega) (l_net_e _ _) _ rfl
  · exact absurd (show (¬ nI e < 0 ∧ ¬ nI L < nI e) from ⟨nI_pos (by omega), nI_nlt (by omega) (by omega)⟩) (of_decide_eq_false (bI_0.mp c_14))
set_option maxHeartbeats 100000 in
theorem c_X12_loadR {l : Launch} {E : ch_E} {S : ch_S} {μ : ch_M} (hs : ch_Std E S) {n sn tx : ch_N} {F : Int32} {u : Nat} {hst : Nat → ch_N} (hJ : r_J n sn tx F u hst (μ 16)) {L : Nat} (hL : tx 12 0 0 = nI L) {x : Int32} (hx : ¬ (¬ x < 0 ∧ ¬ nI L < x)) : ch_C E l yX12_load cX12_load 2 (some FieldType.int) 8 0 0 S μ [.ref (S.1 16 22 0), .int x] (ch_F (some (.int (0))) S (r_th μ 1)) := by
  refine ch_enter rfl rfl ?_
  intro X hl0 h hG hR hnm
  have h : ch_H X E RX12 cX12_load 2 := h
  obtain ⟨L', hL1, hL2, hL3, hL4, hL5⟩ := hJ.2.2.2
  have eLL : nI L' = nI L := hL2.symm.trans hL
  show ch_W X E 2 S μ 0 0 0 [(0, .ref (S.1 16 22 0)), (1, .int x)] []
  refine ca_aload_nr h dX12_load_0 rfl ?_
  refine ca_iconst h dX12_load_1 ik_0 ?_
  refine pi_X12_70 h (hs.1 _ _ _ ⟨rfl, rfl⟩) dX12_load_2 ?_
  refine ca_mem (μ'' := r_th μ 0) rfl ?_
  refine ca_iload_n h dX12_load_5 rfl ?_
  refine ca_iconst h dX12_load_6 ik_0 ?_
  refine ca_aload_nr h dX12_load_7 rfl ?_
  refine gi_X12_277 h (hs.1 _ _ _ ⟨rfl, rfl⟩) dX12_load_8 ?_
  refine ca_top (show _ = nI L by rw [r_th_16, nw_at, if_neg (by omega), hL3, eLL]) ?_
  refine ca_si h hG ms_X12_73 (c_X12_inRange) rfl rfl rfl rfl ⟨Nat.le_refl _, Nat.le_refl _⟩ rfl dX12_load_11 ?_
  refine ca_if_ne (tgt := 23) h dX12_load_14 (by decide) (fun c_14 => ?_) (fun c_14 => ?_)
  ·
    exact absurd (of_decide_eq_true (bI_n0.mp c_14)) hx
  ·
    refine ca_aload_nr h dX12_load_17 rfl ?_
    refine ca_iconst h dX12_load_18 ik_1 ?_
    refine ca_vi h hG ml_X12_108 (c_X12_raise hs) (ci := 12) rfl rfl rfl (hs.1 _ _ _ ⟨rfl, rfl⟩) rfl rfl rfl rfl ⟨Nat.le_refl _, Nat.le_refl _⟩ rfl dX12_load_19 ?_
    refine ca_ireturn h hR rfl dX12_load_22 ?_
    exact ⟨rfl, rfl, by rw [r_th_th]⟩
