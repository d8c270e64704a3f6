/-! THE READER OF NETWORKS: a pair is the text's memory and the network's -/
abbrev ch_P2 : Type := ch_N × ch_N
def l_f (c f : Nat) (lo hi : Int32) (p : ch_P2) : ch_P2 := ((t_take p.1 lo hi).2, nw p.2 1 c f (t_take p.1 lo hi).1)
def l_h (j : Nat) (lo hi : Int32) (p : ch_P2) : ch_P2 := ((t_take p.1 lo hi).2, nw p.2 0 0 j (t_take p.1 lo hi).1)
def l_cellA (c : Nat) (p : ch_P2) : ch_P2 := l_f c 7 0 99 (l_f c 6 0 99 (l_f c 5 0 6 (l_f c 4 1 8 (l_f c 3 1 50 (l_f c 2 1 99 (l_f c 1 0 999 (l_f c 0 0 999 p)))))))
def l_cell (p : ch_P2) : ch_P2 := if ¬ p.2 0 0 0 < 8 then (t_fail p.1 3, p.2) else
  ((l_cellA (k_ix 8 8 (p.2 0 0 0)) (t_adv p.1, p.2)).1, nw (nw (l_cellA (k_ix 8 8 (p.2 0 0 0)) (t_adv p.1, p.2)).2 1 (k_ix 8 8 (p.2 0 0 0)) 8 0) 0 0 0 ((l_cellA (k_ix 8 8 (p.2 0 0 0)) (t_adv p.1, p.2)).2 0 0 0 + 1))
def l_set (p : ch_P2) : ch_P2 := l_h 9 1 20 (l_h 8 0 99 (l_h 7 1 30 (l_h 6 0 50 (l_h 5 1 ((l_h 4 1 8 (t_adv p.1, p.2)).2 0 0 4) (l_h 4 1 8 (t_adv p.1, p.2))))))
def l_r1 (p : ch_P2) : Int32 × ch_N := t_take (t_adv p.1) 0 (p.2 0 0 0 - 1)
def l_r2 (p : ch_P2) : Int32 × ch_N := t_see (l_r1 p).2 0 (p.2 0 0 0 - 1)
def l_r3 (p : ch_P2) : ch_N := if (l_r2 p).1 = (l_r1 p).1 then t_fail (l_r2 p).2 2 else (l_r2 p).2
def l_r4 (p : ch_P2) : ch_N := if p.2 2 (k_rx (l_r1 p).1 (l_r2 p).1) 0 = 0 then l_r3 p else t_fail (l_r3 p) 4
def l_r5 (p : ch_P2) : Int32 × ch_N := t_take (t_adv (l_r4 p)) 0 30
def l_rel (p : ch_P2) : ch_P2 := if ¬ p.2 0 0 1 < 24 then (t_fail p.1 3, p.2) else
  ((l_r5 p).2, nw (nw (nw p.2 2 (k_rx (l_r1 p).1 (l_r2 p).1) 1 (l_r5 p).1) 2 (k_rx (l_r1 p).1 (l_r2 p).1) 0 1) 0 0 1 (p.2 0 0 1 + 1))
def l_cl (p : ch_P2) : ch_P2 := if t_is p.1 1 = true then l_cell p else if t_is p.1 2 = true then l_rel p else if t_is p.1 3 = true then l_set p else (t_fail p.1 1, p.2)
def l_nL : Nat → ch_P2 → ch_P2
  | 0, p => p
  | j + 1, p => if t_go p.1 = true then l_nL j (t_exp (l_cl p).1 4, (l_cl p).2) else p
theorem l_nL_s (j : Nat) (p : ch_P2) : l_nL (j + 1) p = if t_go p.1 = true then l_nL j (t_exp (l_cl p).1 4, (l_cl p).2) else p := rfl
def l_net (p : ch_P2) : ch_P2 := l_nL 700 (p.1, k_clear p.2)
theorem l_f_tx {c f : Nat} {lo hi : Int32} {p : ch_P2} (h : k_tx p.1) : k_tx (l_f c f lo hi p).1 := k_tx_take h _ _
theorem l_h_tx {j : Nat} {lo hi : Int32} {p : ch_P2} (h : k_tx p.1) : k_tx (l_h j lo hi p).1 := k_tx_take h _ _
theorem l_cellA_tx {c : Nat} {p : ch_P2} (h : k_tx p.1) : k_tx (l_cellA c p).1 := by
  unfold l_cellA
  apply l_f_tx; apply l_f_tx; apply l_f_tx; apply l_f_tx; apply l_f_tx; apply l_f_tx; apply l_f_tx; apply l_f_tx
  exact h
theorem l_cell_tx {p : ch_P2} (h : k_tx p.1) : k_tx (l_cell p).1 := by
  unfold l_cell
  split
  · exact k_tx_fail h
  · dsimp only
    exact l_cellA_tx (c := k_ix 8 8 (p.2 0 0 0)) (p := (t_adv p.1, p.2)) (k_tx_adv h)
theorem l_set_tx {p : ch_P2} (h : k_tx p.1) : k_tx (l_set p).1 := by
  unfold l_set
  apply l_h_tx; apply l_h_tx; apply l_h_tx; apply l_h_tx; apply l_h_tx; apply l_h_tx
  exact k_tx_adv h
theorem l_r3_tx {p : ch_P2} (h : k_tx p.1) : k_tx (l_r3 p) := by
  unfold l_r3
  split
  · exact k_tx_fail (k_tx_see (k_tx_take (k_tx_adv h) _ _) _ _)
  · exact k_tx_see (k_tx_take (k_tx_adv h) _ _) _ _
theorem l_r4_tx {p : ch_P2} (h : k_tx p.1) : k_tx (l_r4 p) := by
  unfold l_r4
  split
  · exact l_r3_tx h
  · exact k_tx_fail (l_r3_tx h)
theorem l_rel_tx {p : ch_P2} (h : k_tx p.1) : k_tx (l_rel p).1 := by
  unfold l_rel
  split
  · exact k_tx_fail h
  · exact k_tx_take (k_tx_adv (l_r4_tx h)) _ _
theorem l_cl_tx {p : ch_P2} (h : k_tx p.1) : k_tx (l_cl p).1 := by
  unfold l_cl
  split
  · exact l_cell_tx h
  · split
    · exact l_rel_tx h
    · split
      · exact l_set_tx h
      · exact k_tx_fail h
theorem mem0 {μ : ch_M} {k : Nat} (h : k ≠ 15) : up (up μ k (μ k)) 15 (μ 15) = μ := by rw [up_id, up_id]
section Rd
variable {X : ch_X} {E : ch_E} {cc : ByteArray} {nL : Nat} {S : ch_S} {μ : ch_M} {kc ks pc : Nat} {L : List (Nat × Value)} {st : List Value} {k : Nat}
theorem rd_t4 (h : ch_H X E RX4 cc nL) (hr : ch_Rd S 35 k) (hd : decode cc pc = .ok (.getfield 9, 3)) (kk : ch_W X E nL S μ kc ks (pc + 3) L (.ref (S.1 15 12 0) :: st)) : ch_W X E nL S μ kc ks pc L (.ref (S.1 15 35 0) :: st) := gr_X4_9 h hr.1 hr.2.1 hd kk
theorem rd_n4 (h : ch_H X E RX4 cc nL) (hr : ch_Rd S 35 k) (hd : decode cc pc = .ok (.getfield 15, 3)) (kk : ch_W X E nL S μ kc ks (pc + 3) L (.ref (S.1 k 0 0) :: st)) : ch_W X E nL S μ kc ks pc L (.ref (S.1 15 35 0) :: st) := gr_X4_15 h hr.1 hr.2.2 hd kk
end Rd
set_option maxHeartbeats 100000 in
theorem c_X4_readCell {l : Launch} {E : ch_E} {S : ch_S} {μ : ch_M} {k : Nat} (hs : ch_Std E S) (hr : ch_Rd S 35 k) (hk : k < 15) (hq : k_tx (μ 15)) : ch_C E l yX4_readCell cX4_readCell 2 none 4 0 0 S μ [.ref (S.1 15 35 0)] (ch_F none S (up (up μ k (l_cell (μ 15, μ k)).2) 15 (l_cell (μ 15, μ k)).1)) := by
  refine ch_enter rfl rfl ?_
  intro X hl0 h hG hR hnm
  have h : ch_H X E RX4 cX4_readCell 2 := h
  have hk15 : k ≠ 15 := by omega
  obtain ⟨n0, hn0⟩ : ∃ z, z = μ k := ⟨_, rfl⟩
  obtain ⟨q0, hq0⟩ : ∃ z, z = μ 15 := ⟨_, rfl⟩
  rw [← hq0] at hq
  show ch_W X E 2 S μ 0 0 0 [(0, .ref (S.1 15 35 0))] []
  refine ca_mem (μ'' := up (up μ k n0) 15 q0) (by rw [hn0, hq0, mem0 hk15]) ?_
  refine ca_aload_nr h dX4_readCell_0 rfl ?_
  refine rd_n4 h hr dX4_readCell_1 ?_
  refine gi_X4_62 h (hs.1 _ _ _ ⟨hk, rfl⟩) dX4_readCell_4 ?_
  refine ca_bipush h dX4_readCell_7 bk_8 ?_
  refine ca_icmp_lt (tgt := 21) h dX4_readCell_9 (by decide) (fun c_9 => ?_) (fun c_9 => ?_)
  ·
    refine ca_aload_nr h dX4_readCell_21 rfl ?_
    refine rd_t4 h hr dX4_readCell_22 ?_
    refine ca_vv h hG ml_X4_66 (c_X10_advance hs (by rw [up_s]; exact hq.1)) (ci := 10) rfl rfl rfl (hs.1 _ _ _ ⟨rfl, rfl⟩) rfl rfl rfl rfl ⟨Nat.le_refl _, Nat.le_refl _⟩ rfl dX4_readCell_25 ?_
    obtain ⟨p0, hp0⟩ : ∃ z : ch_P2, z = (t_adv q0, n0) := ⟨_, rfl⟩
    refine ca_mem (μ'' := up (up μ k p0.2) 15 p0.1) (by rw [hp0]; simp only [ch_st_nw, mem3 hk15, mem2 hk15, up_s, mem4]) ?_
    have g0 : k_tx p0.1 := by rw [hp0]; exact k_tx_adv hq
    refine ca_aload_nr h dX4_readCell_28 rfl ?_
    refine rd_n4 h hr dX4_readCell_29 ?_
    refine ca_aload_nr h dX4_readCell_32 rfl ?_
    refine rd_n4 h hr dX4_readCell_33 ?_
    refine gi_X4_62 h (hs.1 _ _ _ ⟨hk, rfl⟩) dX4_readCell_36 ?_
    refine ca_top (show _ = n0 0 0 0 by rw [mem3 hk15, hp0]) ?_
    refine ca_vr h hG ml_X4_69 (c_X3_cellAt hs hk) (ci := 3) rfl rfl rfl (hs.1 _ _ _ ⟨hk, rfl⟩) rfl rfl rfl rfl ⟨Nat.le_refl _, Nat.le_refl _⟩ rfl dX4_readCell_39 ?_
    refine ca_astore_n h dX4_readCell_42 rfl ?_
    obtain ⟨c, hc⟩ : ∃ z, z = k_ix 8 8 (n0 0 0 0) := ⟨_, rfl⟩
    have hc9 : c < 9 := by rw [hc]; exact k_ixc _
    rw [← hc]
    refine ca_aload_nr h dX4_readCell_43 rfl ?_
    refine ca_aload_nr h dX4_readCell_44 rfl ?_
    refine rd_t4 h hr dX4_readCell_45 ?_
    refine ca_iconst h dX4_readCell_48 ik_0 ?_
    refine ca_sipush h dX4_readCell_49 sk_999 ?_
    refine ca_vi h hG ml_X4_73 (c_X10_takeNumber hs (by rw [up_s]; exact g0)) (ci := 10) rfl rfl rfl (hs.1 _ _ _ ⟨rfl, rfl⟩) rfl rfl rfl rfl ⟨Nat.le_refl _, Nat.le_refl _⟩ rfl dX4_readCell_52 ?_
    refine pi_X4_77 h (hs.1 _ _ _ (vC hk hc9)) dX4_readCell_55 ?_
    obtain ⟨p1, hp1⟩ : ∃ z : ch_P2, z = l_f c 0 0 999 p0 := ⟨_, rfl⟩
    refine ca_mem (μ'' := up (up μ k p1.2) 15 p1.1) (by rw [hp1]; simp only [ch_st_nw, mem3 hk15, mem2 hk15, up_s, mem4]; rfl) ?_
    have g1 : k_tx p1.1 := by rw [hp1]; exact l_f_tx g0
    refine ca_aload_nr h dX4_readCell_58 rfl ?_
    refine ca_aload_nr h dX4_readCell_59 rfl ?_
    refine rd_t4 h hr dX4_readCell_60 ?_
    refine ca_iconst h dX4_readCell_63 ik_0 ?_
    refine ca_sipush h dX4_readCell_64 sk_999 ?_
    refine ca_vi h hG ml_X4_73 (c_X10_takeNumber hs (by rw [up_s]; exact g1)) (ci := 10) rfl rfl rfl (hs.1 _ _ _ ⟨rfl, rfl⟩) rfl rfl rfl rfl ⟨Nat.le_refl _, Nat.le_refl _⟩ rfl dX4_readCell_67 ?_
    refine pi_X4_82 h (hs.1 _ _ _ (vC hk hc9)) dX4_readCell_70 ?_
    obtain ⟨p2, hp2⟩ : ∃ z : ch_P2, z = l_f c 1 0 999 p1 := ⟨_, rfl⟩
    refine ca_mem (μ'' := up (up μ k p2.2) 15 p2.1) (by rw [hp2]; simp only [ch_st_nw, mem3 hk15, mem2 hk15, up_s, mem4]; rfl) ?_
    have g2 : k_tx p2.1 := by rw [hp2]; exact l_f_tx g1
    refine ca_aload_nr h dX4_readCell_73 rfl ?_
    refine ca_aload_nr h dX4_readCell_74 rfl ?_
    refine rd_t4 h hr dX4_readCell_75 ?_
    refine ca_iconst h dX4_readCell_78 ik_1 ?_
    refine ca_bipush h dX4_readCell_79 bk_99 ?_
    refine ca_vi h hG ml_X4_73 (c_X10_takeNumber hs (by rw [up_s]; exact g2)) (ci := 10) rfl rfl rfl (hs.1 _ _ _ ⟨rfl, rfl⟩) rfl rfl rfl rfl ⟨Nat.le_refl _, Nat.le_refl _⟩ rfl dX4_readCell_81 ?_
    refine pi_X4_85 h (hs.1 _ _ _ (vC hk hc9)) dX4_readCell_84 ?_
    obtain ⟨p3, hp3⟩ : ∃ z : ch_P2, z = l_f c 2 1 99 p2 := ⟨_, rfl⟩
    refine ca_mem (μ'' := up (up μ k p3.2) 15 p3.1) (by rw [hp3]; simp only [ch_st_nw, mem3 hk15, mem2 hk15, up_s, mem4]; rfl) ?_
    have g3 : k_tx p3.1 := by rw [hp3]; exact l_f_tx g2
    refine ca_aload_nr h dX4_readCell_87 rfl ?_
    refine ca_aload_nr h dX4_readCell_88 rfl ?_
    refine rd_t4 h hr dX4_readCell_89 ?_
    refine ca_iconst h dX4_readCell_92 ik_1 ?_
    refine ca_bipush h dX4_readCell_93 bk_50 ?_
    refine ca_vi h hG ml_X4_73 (c_X10_takeNumber hs (by rw [up_s]; exact g3)) (ci := 10) rfl rfl rfl (hs.1 _ _ _ ⟨rfl, rfl⟩) rfl rfl rfl rfl ⟨Nat.le_refl _, Nat.le_refl _⟩ rfl dX4_readCell_95 ?_
    refine pi_X4_88 h (hs.1 _ _ _ (vC hk hc9)) dX4_readCell_98 ?_
    obtain ⟨p4, hp4⟩ : ∃ z : ch_P2, z = l_f c 3 1 50 p3 := ⟨_, rfl⟩
    refine ca_mem (μ'' := up (up μ k p4.2) 15 p4.1) (by rw [hp4]; simp only [ch_st_nw, mem3 hk15, mem2 hk15, up_s, mem4]; rfl) ?_
    have g4 : k_tx p4.1 := by rw [hp4]; exact l_f_tx g3
    refine ca_aload_nr h dX4_readCell_101 rfl ?_
    refine ca_aload_nr h dX4_readCell_102 rfl ?_
    refine rd_t4 h hr dX4_readCell_103 ?_
    refine ca_iconst h dX4_readCell_106 ik_1 ?_
    refine ca_bipush h dX4_readCell_107 bk_8 ?_
    refine ca_vi h hG ml_X4_73 (c_X10_takeNumber hs (by rw [up_s]; exact g4)) (ci := 10) rfl rfl rfl (hs.1 _ _ _ ⟨rfl, rfl⟩) rfl rfl rfl rfl ⟨Nat.le_refl _, Nat.le_refl _⟩ rfl dX4_readCell_109 ?_
    refine pi_X4_91 h (hs.1 _ _ _ (vC hk hc9)) dX4_readCell_112 ?_
    obtain ⟨p5, hp5⟩ : ∃ z : ch_P2, z = l_f c 4 1 8 p4 := ⟨_, rfl⟩
    refine ca_mem (μ'' := up (up μ k p5.2) 15 p5.1) (by rw [hp5]; simp only [ch_st_nw, mem3 hk15, mem2 hk15, up_s, mem4]; rfl) ?_
    have g5 : k_tx p5.1 := by rw [hp5]; exact l_f_tx g4
    refine ca_aload_nr h dX4_readCell_115 rfl ?_
    refine ca_aload_nr h dX4_readCell_116 rfl ?_
    refine rd_t4 h hr dX4_readCell_117 ?_
    refine ca_iconst h dX4_readCell_120 ik_0 ?_
    refine ca_bipush h dX4_readCell_121 bk_6 ?_
    refine ca_vi h hG ml_X4_73 (c_X10_takeNumber hs (by rw [up_s]; exact g5)) (ci := 10) rfl rfl rfl (hs.1 _ _ _ ⟨rfl, rfl⟩) rfl rfl rfl rfl ⟨Nat.le_refl _, Nat.le_refl _⟩ rfl dX4_readCell_123 ?_
    refine pi_X4_94 h (hs.1 _ _ _ (vC hk hc9)) dX4_readCell_126 ?_
    obtain ⟨p6, hp6⟩ : ∃ z : ch_P2, z = l_f c 5 0 6 p5 := ⟨_, rfl⟩
    refine ca_mem (μ'' := up (up μ k p6.2) 15 p6.1) (by rw [hp6]; simp only [ch_st_nw, mem3 hk15, mem2 hk15, up_s, mem4]; rfl) ?_
    have g6 : k_tx p6.1 := by rw [hp6]; exact l_f_tx g5
    refine ca_aload_nr h dX4_readCell_129 rfl ?_
    refine ca_aload_nr h dX4_readCell_130 rfl ?_
    refine rd_t4 h hr dX4_readCell_131 ?_
    refine ca_iconst h dX4_readCell_134 ik_0 ?_
    refine ca_bipush h dX4_readCell_135 bk_99 ?_
    refine ca_vi h hG ml_X4_73 (c_X10_takeNumber hs (by rw [up_s]; exact g6)) (ci := 10) rfl rfl rfl (hs.1 _ _ _ ⟨rfl, rfl⟩) rfl rfl rfl rfl ⟨Nat.le_refl _, Nat.le_refl _⟩ rfl dX4_readCell_137 ?_
    refine pi_X4_97 h (hs.1 _ _ _ (vC hk hc9)) dX4_readCell_140 ?_
    obtain ⟨p7, hp7⟩ : ∃ z : ch_P2, z = l_f c 6 0 99 p6 := ⟨_, rfl⟩
    refine ca_mem (μ'' := up (up μ k p7.2) 15 p7.1) (by rw [hp7]; simp only [ch_st_nw, mem3 hk15, mem2 hk15, up_s, mem4]; rfl) ?_
    have g7 : k_tx p7.1 := by rw [hp7]; exact l_f_tx g6
    refine ca_aload_nr h dX4_readCell_143 rfl ?_
    refine ca_aload_nr h dX4_readCell_144 rfl ?_
    refine rd_t4 h hr dX4_readCell_145 ?_
    refine ca_iconst h dX4_readCell_148 ik_0 ?_
    refine ca_bipush h dX4_readCell_149 bk_99 ?_
    refine ca_vi h hG ml_X4_73 (c_X10_takeNumber hs (by rw [up_s]; exact g7)) (ci := 10) rfl rfl rfl (hs.1 _ _ _ ⟨rfl, rfl⟩) rfl rfl rfl rfl ⟨Nat.le_refl _, Nat.le_refl _⟩ rfl dX4_readCell_151 ?_
    refine pi_X4_100 h (hs.1 _ _ _ (vC hk hc9)) dX4_readCell_154 ?_
    obtain ⟨p8, hp8⟩ : ∃ z : ch_P2, z = l_f c 7 0 99 p7 := ⟨_, rfl⟩
    refine ca_mem (μ'' := up (up μ k p8.2) 15 p8.1) (by rw [hp8]; simp only [ch_st_nw, mem3 hk15, mem2 hk15, up_s, mem4]; rfl) ?_
    have g8 : k_tx p8.1 := by rw [hp8]; exact l_f_tx g7
    refine ca_aload_nr h dX4_readCell_157 rfl ?_
    refine ca_iconst h dX4_readCell_158 ik_0 ?_
    refine pi_X4_103 h (hs.1 _ _ _ (vC hk hc9)) dX4_readCell_159 ?_
    refine ca_aload_nr h dX4_readCell_162 rfl ?_
    refine rd_n4 h hr dX4_readCell_163 ?_
    refine ca_dup h dX4_readCell_166 rfl ?_
    refine gi_X4_62 h (hs.1 _ _ _ ⟨hk, rfl⟩) dX4_readCell_167 ?_
    refine ca_iconst h dX4_readCell_170 ik_1 ?_
    refine ca_iadd h dX4_readCell_171 ?_
    refine pi_X4_62 h (hs.1 _ _ _ ⟨hk, rfl⟩) dX4_readCell_172 ?_
    refine ca_vreturn h hR dX4_readCell_175 ?_
    have c9 := c_9
    rw [mem3 hk15] at c9
    have e1 : p8 = l_cellA c (t_adv q0, n0) := by rw [hp8, hp7, hp6, hp5, hp4, hp3, hp2, hp1, hp0]; rfl
    exact ⟨rfl, rfl, by unfold l_cell; rw [← hn0, ← hq0, if_neg (fun z => z c9)]; dsimp only; rw [← hc, ← e1]; simp only [ch_st_nw, mem3 hk15, mem2 hk15, up_s, mem4]; rw [nw_k (show (0 : Nat) ≠ 1 by decide)]⟩
  ·
    refine ca_aload_nr h dX4_readCell_12 rfl ?_
    refine rd_t4 h hr dX4_readCell_13 ?_
    refine ca_iconst h dX4_readCell_16 ik_3 ?_
    refine ca_vv h hG ml_X4_58 (c_X10_fail hs) (ci := 10) rfl rfl rfl (hs.1 _ _ _ ⟨rfl, rfl⟩) rfl rfl rfl rfl ⟨Nat.le_refl _, Nat.le_refl _⟩ rfl dX4_readCell_17 ?_
    refine ca_vreturn h hR dX4_readCell_20 ?_
    have c9 := c_9
    rw [mem3 hk15] at c9
    exact ⟨rfl, rfl, by unfold l_cell; rw [← hn0, ← hq0, if_pos c9]; simp only [up_s, mem4]⟩
set_option maxHeartbeats 100000 in
theorem c_X4_readSettings {l : Launch} {E : ch_E} {S : ch_S} {μ : ch_M} {k : Nat} (hs : ch_Std E S) (hr : ch_Rd S 35 k) (hk : k < 15) (hq : k_tx (μ 15)) : ch_C E l yX4_readSettings cX4_readSettings 1 none 4 0 0 S μ [.ref (S.1 15 35 0)] (ch_F none S (up (up μ k (l_set (μ 15, μ k)).2) 15 (l_set (μ 15, μ k)).1)) := by
  refine ch_enter rfl rfl ?_
  intro X hl0 h hG hR hnm
  have h : ch_H X E RX4 cX4_readSettings 1 := h
  have hk15 : k ≠ 15 := by omega
  obtain ⟨n0, hn0⟩ : ∃ z, z = μ k := ⟨_, rfl⟩
  obtain ⟨q0, hq0⟩ : ∃ z, z = μ 15 := ⟨_, rfl⟩
  rw [← hq0] at hq
  show ch_W X E 1 S μ 0 0 0 [(0, .ref (S.1 15 35 0))] []
  refine ca_mem (μ'' := up (up μ k n0) 15 q0) (by rw [hn0, hq0, mem0 hk15]) ?_
  refine ca_aload_nr h dX4_readSettings_0 rfl ?_
  refine rd_t4 h hr dX4_readSettings_1 ?_
  refine ca_vv h hG ml_X4_66 (c_X10_advance hs (by rw [up_s]; exact hq.1)) (ci := 10) rfl rfl rfl (hs.1 _ _ _ ⟨rfl, rfl⟩) rfl rfl rfl rfl ⟨Nat.le_refl _, Nat.le_refl _⟩ rfl dX4_readSettings_4 ?_
  obtain ⟨p0, hp0⟩ : ∃ z : ch_P2, z = (t_adv q0, n0) := ⟨_, rfl⟩
  refine ca_mem (μ'' := up (up μ k p0.2) 15 p0.1) (by rw [hp0]; simp only [ch_st_nw, mem3 hk15, mem2 hk15, up_s, mem4]) ?_
  have g0 : k_tx p0.1 := by rw [hp0]; exact k_tx_adv hq
  refine ca_aload_nr h dX4_readSettings_7 rfl ?_
  refine rd_n4 h hr dX4_readSettings_8 ?_
  refine ca_aload_nr h dX4_readSettings_11 rfl ?_
  refine rd_t4 h hr dX4_readSettings_12 ?_
  refine ca_iconst h dX4_readSettings_15 ik_1 ?_
  refine ca_bipush h dX4_readSettings_16 bk_8 ?_
  refine ca_vi h hG ml_X4_73 (c_X10_takeNumber hs (by rw [up_s]; exact g0)) (ci := 10) rfl rfl rfl (hs.1 _ _ _ ⟨rfl, rfl⟩) rfl rfl rfl rfl ⟨Nat.le_refl _, Nat.le_refl _⟩ rfl dX4_readSettings_18 ?_
  refine pi_X4_125 h (hs.1 _ _ _ ⟨hk, rfl⟩) dX4_readSettings_21 ?_
  obtain ⟨p1, hp1⟩ : ∃ z : ch_P2, z = l_h 4 1 8 p0 := ⟨_, rfl⟩
  refine ca_mem (μ'' := up (up μ k p1.2) 15 p1.1) (by rw [hp1]; simp only [ch_st_nw, mem3 hk15, mem2 hk15, up_s, mem4]; rfl) ?_
  have g1 : k_tx p1.1 := by rw [hp1]; exact l_h_tx g0
  refine ca_aload_nr h dX4_readSettings_24 rfl ?_
  refine rd_n4 h hr dX4_readSettings_25 ?_
  refine ca_aload_nr h dX4_readSettings_28 rfl ?_
  refine rd_t4 h hr dX4_readSettings_29 ?_
  refine ca_iconst h dX4_readSettings_32 ik_1 ?_
  refine ca_aload_nr h dX4_readSettings_33 rfl ?_
  refine rd_n4 h hr dX4_readSettings_34 ?_
  refine gi_X4_125 h (hs.1 _ _ _ ⟨hk, rfl⟩) dX4_readSettings_37 ?_
  refine ca_top (show _ = p1.2 0 0 4 by rw [mem3 hk15]) ?_
  refine ca_vi h hG ml_X4_73 (c_X10_takeNumber hs (by rw [up_s]; exact g1)) (ci := 10) rfl rfl rfl (hs.1 _ _ _ ⟨rfl, rfl⟩) rfl rfl rfl rfl ⟨Nat.le_refl _, Nat.le_refl _⟩ rfl dX4_readSettings_40 ?_
  refine pi_X4_128 h (hs.1 _ _ _ ⟨hk, rfl⟩) dX4_readSettings_43 ?_
  obtain ⟨p2, hp2⟩ : ∃ z : ch_P2, z = l_h 5 1 (p1.2 0 0 4) p1 := ⟨_, rfl⟩
  refine ca_mem (μ'' := up (up μ k p2.2) 15 p2.1) (by rw [hp2]; simp only [ch_st_nw, mem3 hk15, mem2 hk15, up_s, mem4]; rfl) ?_
  have g2 : k_tx p2.1 := by rw [hp2]; exact l_h_tx g1
  refine ca_aload_nr h dX4_readSettings_46 rfl ?_
  refine rd_n4 h hr dX4_readSettings_47 ?_
  refine ca_aload_nr h dX4_readSettings_50 rfl ?_
  refine rd_t4 h hr dX4_readSettings_51 ?_
  refine ca_iconst h dX4_readSettings_54 ik_0 ?_
  refine ca_bipush h dX4_readSettings_55 bk_50 ?_
  refine ca_vi h hG ml_X4_73 (c_X10_takeNumber hs (by rw [up_s]; exact g2)) (ci := 10) rfl rfl rfl (hs.1 _ _ _ ⟨rfl, rfl⟩) rfl rfl rfl rfl ⟨Nat.le_refl _, Nat.le_refl _⟩ rfl dX4_readSettings_57 ?_
  refine pi_X4_131 h (hs.1 _ _ _ ⟨hk, rfl⟩) dX4_readSettings_60 ?_
  obtain ⟨p3, hp3⟩ : ∃ z : ch_P2, z = l_h 6 0 50 p2 := ⟨_, rfl⟩
  refine ca_mem (μ'' := up (up μ k p3.2) 15 p3.1) (by rw [hp3]; simp only [ch_st_nw, mem3 hk15, mem2 hk15, up_s, mem4]; rfl) ?_
  have g3 : k_tx p3.1 := by rw [hp3]; exact l_h_tx g2
  refine ca_aload_nr h dX4_readSettings_63 rfl ?_
  refine rd_n4 h hr dX4_readSettings_64 ?_
  refine ca_aload_nr h dX4_readSettings_67 rfl ?_
  refine rd_t4 h hr dX4_readSettings_68 ?_
  refine ca_iconst h dX4_readSettings_71 ik_1 ?_
  refine ca_bipush h dX4_readSettings_72 bk_30 ?_
  refine ca_vi h hG ml_X4_73 (c_X10_takeNumber hs (by rw [up_s]; exact g3)) (ci := 10) rfl rfl rfl (hs.1 _ _ _ ⟨rfl, rfl⟩) rfl rfl rfl rfl ⟨Nat.le_refl _, Nat.le_refl _⟩ rfl dX4_readSettings_74 ?_
  refine pi_X4_134 h (hs.1 _ _ _ ⟨hk, rfl⟩) dX4_readSettings_77 ?_
  obtain ⟨p4, hp4⟩ : ∃ z : ch_P2, z = l_h 7 1 30 p3 := ⟨_, rfl⟩
  refine ca_mem (μ'' := up (up μ k p4.2) 15 p4.1) (by rw [hp4]; simp only [ch_st_nw, mem3 hk15, mem2 hk15, up_s, mem4]; rfl) ?_
  have g4 : k_tx p4.1 := by rw [hp4]; exact l_h_tx g3
  refine ca_aload_nr h dX4_readSettings_80 rfl ?_
  refine rd_n4 h hr dX4_readSettings_81 ?_
  refine ca_aload_nr h dX4_readSettings_84 rfl ?_
  refine rd_t4 h hr dX4_readSettings_85 ?_
  refine ca_iconst h dX4_readSettings_88 ik_0 ?_
  refine ca_bipush h dX4_readSettings_89 bk_99 ?_
  refine ca_vi h hG ml_X4_73 (c_X10_takeNumber hs (by rw [up_s]; exact g4)) (ci := 10) rfl rfl rfl (hs.1 _ _ _ ⟨rfl, rfl⟩) rfl rfl rfl rfl ⟨Nat.le_refl _, Nat.le_refl _⟩ rfl dX4_readSettings_91 ?_
  refine pi_X4_137 h (hs.1 _ _ _ ⟨hk, rfl⟩) dX4_readSettings_94 ?_
  obtain ⟨p5, hp5⟩ : ∃ z : ch_P2, z = l_h 8 0 99 p4 := ⟨_, rfl⟩
  refine ca_mem (μ'' := up (up μ k p5.2) 15 p5.1) (by rw [hp5]; simp only [ch_st_nw, mem3 hk15, mem2 hk15, up_s, mem4]; rfl) ?_
  have g5 : k_tx p5.1 := by rw [hp5]; exact l_h_tx g4
  refine ca_aload_nr h dX4_readSettings_97 rfl ?_
  refine rd_n4 h hr dX4_readSettings_98 ?_
  refine ca_aload_nr h dX4_readSettings_101 rfl ?_
  refine rd_t4 h hr dX4_readSettings_102 ?_
  refine ca_iconst h dX4_readSettings_105 ik_1 ?_
  refine ca_bipush h dX4_readSettings_106 bk_20 ?_
  refine ca_vi h hG ml_X4_73 (c_X10_takeNumber hs (by rw [up_s]; exact g5)) (ci := 10) rfl rfl rfl (hs.1 _ _ _ ⟨rfl, rfl⟩) rfl rfl rfl rfl ⟨Nat.le_refl _, Nat.le_refl _⟩ rfl dX4_readSettings_108 ?_
  refine pi_X4_140 h (hs.1 _ _ _ ⟨hk, rfl⟩) dX4_readSettings_111 ?_
  obtain ⟨p6, hp6⟩ : ∃ z : ch_P2, z = l_h 9 1 20 p5 := ⟨_, rfl⟩
  refine ca_mem (μ'' := up (up μ k p6.2) 15 p6.1) (by rw [hp6]; simp only [ch_st_nw, mem3 hk15, mem2 hk15, up_s, mem4]; rfl) ?_
  have g6 : k_tx p6.1 := by rw [hp6]; exact l_h_tx g5
  refine ca_vreturn h hR dX4_readSettings_114 ?_
  have e1 : p6 = l_set (q0, n0) := by rw [hp6, hp5, hp4, hp3, hp2, hp1, hp0]; rfl
  exact ⟨rfl, rfl, by rw [← hn0, ← hq0, ← e1]⟩
set_option maxHeartbeats 100000 in
theorem c_X4_readRelation {l : Launch} {E : ch_E} {S : ch_S} {μ : ch_M} {k : Nat} (hs : ch_Std E S) (hr : ch_Rd S 35 k) (hk : k < 15) (hq : k_tx (μ 15)) : ch_C E l yX4_readRelation cX4_readRelation 4 none 4 0 0 S μ [.ref (S.1 15 35 0)] (ch_F none S (up (up μ k (l_rel (μ 15, μ k)).2) 15 (l_rel (μ 15, μ k)).1)) := by
  refine ch_enter rfl rfl ?_
  intro X hl0 h hG hR hnm
  have h : ch_H X E RX4 cX4_readRelation 4 := h
  have hk15 : k ≠ 15 := by omega
  obtain ⟨n0, hn0⟩ : ∃ z, z = μ k := ⟨_, rfl⟩
  obtain ⟨q0, hq0⟩ : ∃ z, z = μ 15 := ⟨_, rfl⟩
  rw [← hq0] at hq
  obtain ⟨p, hp⟩ : ∃ z : ch_P2, z = (q0, n0) := ⟨_, rfl⟩
  have hp1 : p.1 = q0 := by rw [hp]
  have hp2 : p.2 = n0 := by rw [hp]
  have hqp : k_tx p.1 := by rw [hp1]; exact hq
  show ch_W X E 4 S μ 0 0 0 [(0, .ref (S.1 15 35 0))] []
  refine ca_mem (μ'' := up (up μ k n0) 15 q0) (by rw [hn0, hq0, mem0 hk15]) ?_
  refine ca_aload_nr h dX4_readRelation_0 rfl ?_
  refine rd_n4 h hr dX4_readRelation_1 ?_
  refine gi_X4_106 h (hs.1 _ _ _ ⟨hk, rfl⟩) dX4_readRelation_4 ?_
  refine ca_bipush h dX4_readRelation_7 bk_24 ?_
  refine ca_icmp_lt (tgt := 21) h dX4_readRelation_9 (by decide) (fun c_9 => ?_) (fun c_9 => ?_)
  ·
    refine ca_aload_nr h dX4_readRelation_21 rfl ?_
    refine rd_t4 h hr dX4_readRelation_22 ?_
    refine ca_vv h hG ml_X4_66 (c_X10_advance hs (by rw [up_s]; exact hq.1)) (ci := 10) rfl rfl rfl (hs.1 _ _ _ ⟨rfl, rfl⟩) rfl rfl rfl rfl ⟨Nat.le_refl _, Nat.le_refl _⟩ rfl dX4_readRelation_25 ?_
    refine ca_mem (μ'' := up (up μ k n0) 15 (t_adv p.1)) (by rw [hp1]; simp only [mem4, up_s]) ?_
    refine ca_aload_nr h dX4_readRelation_28 rfl ?_
    refine rd_t4 h hr dX4_readRelation_29 ?_
    refine ca_iconst h dX4_readRelation_32 ik_0 ?_
    refine ca_aload_nr h dX4_readRelation_33 rfl ?_
    refine rd_n4 h hr dX4_readRelation_34 ?_
    refine gi_X4_62 h (hs.1 _ _ _ ⟨hk, rfl⟩) dX4_readRelation_37 ?_
    refine ca_iconst h dX4_readRelation_40 ik_1 ?_
    refine ca_isub h dX4_readRelation_41 ?_
    refine ca_top (show _ = p.2 0 0 0 - 1 by rw [mem3 hk15, hp2]) ?_
    refine ca_vi h hG ml_X4_73 (c_X10_takeNumber hs (by rw [up_s]; exact k_tx_adv hqp)) (ci := 10) rfl rfl rfl (hs.1 _ _ _ ⟨rfl, rfl⟩) rfl rfl rfl rfl ⟨Nat.le_refl _, Nat.le_refl _⟩ rfl dX4_readRelation_42 ?_
    refine ca_top (show _ = (l_r1 p).1 by rw [up_s]; rfl) ?_
    refine ca_mem (μ'' := up (up μ k n0) 15 (l_r1 p).2) (by simp only [mem4, up_s]; rfl) ?_
    refine ca_istore_n h dX4_readRelation_45 rfl ?_
    refine ca_aload_nr h dX4_readRelation_46 rfl ?_
    refine rd_t4 h hr dX4_readRelation_47 ?_
    refine ca_iconst h dX4_readRelation_50 ik_0 ?_
    refine ca_aload_nr h dX4_readRelation_51 rfl ?_
    refine rd_n4 h hr dX4_readRelation_52 ?_
    refine gi_X4_62 h (hs.1 _ _ _ ⟨hk, rfl⟩) dX4_readRelation_55 ?_
    refine ca_iconst h dX4_readRelation_58 ik_1 ?_
    refine ca_isub h dX4_readRelation_59 ?_
    refine ca_top (show _ = p.2 0 0 0 - 1 by rw [mem3 hk15, hp2]) ?_
    refine ca_vi h hG ml_X4_109 (c_X10_seeNumber hs (by rw [up_s]; exact k_tx_take (k_tx_adv hqp) _ _)) (ci := 10) rfl rfl rfl (hs.1 _ _ _ ⟨rfl, rfl⟩) rfl rfl rfl rfl ⟨Nat.le_refl _, Nat.le_refl _⟩ rfl dX4_readRelation_60 ?_
    refine ca_top (show _ = (l_r2 p).1 by rw [up_s]; rfl) ?_
    refine ca_mem (μ'' := up (up μ k n0) 15 (l_r2 p).2) (by simp only [mem4, up_s]; rfl) ?_
    refine ca_istore_n h dX4_readRelation_63 rfl ?_
    refine ca_iload_n h dX4_readRelation_64 rfl ?_
    refine ca_iload_n h dX4_readRelation_65 rfl ?_
    refine ca_icmp_ne (tgt := 77) h dX4_readRelation_66 (by decide) (fun c_66 => ?_) (fun c_66 => ?_)
    ·
      refine ca_mem (μ'' := up (up μ k n0) 15 (l_r3 p)) (by unfold l_r3; rw [if_neg c_66]) ?_
      refine ca_aload_nr h dX4_readRelation_77 rfl ?_
      refine rd_n4 h hr dX4_readRelation_78 ?_
      refine ca_iload_n h dX4_readRelation_81 rfl ?_
      refine ca_iload_n h dX4_readRelation_82 rfl ?_
      refine ca_vr h hG ml_X4_112 (c_X3_relationAt hs hk) (ci := 3) rfl rfl rfl (hs.1 _ _ _ ⟨hk, rfl⟩) rfl rfl rfl rfl ⟨Nat.le_refl _, Nat.le_refl _⟩ rfl dX4_readRelation_83 ?_
      refine ca_astore_n h dX4_readRelation_86 rfl ?_
      refine ca_aload_nr h dX4_readRelation_87 rfl ?_
      refine gi_X4_116 h (hs.1 _ _ _ (vR hk (k_rx_le _ _))) dX4_readRelation_88 ?_
      refine ca_if_eq (tgt := 102) h dX4_readRelation_91 (by decide) (fun c_91 => ?_) (fun c_91 => ?_)
      ·
        have c9 := c_91
        rw [mem3 hk15] at c9
        refine ca_mem (μ'' := up (up μ k n0) 15 (l_r4 p)) (by unfold l_r4; rw [hp2, if_pos c9]) ?_
        refine ca_aload_nr h dX4_readRelation_102 rfl ?_
        refine rd_t4 h hr dX4_readRelation_103 ?_
        refine ca_vv h hG ml_X4_66 (c_X10_advance hs (by rw [up_s]; exact (l_r4_tx hqp).1)) (ci := 10) rfl rfl rfl (hs.1 _ _ _ ⟨rfl, rfl⟩) rfl rfl rfl rfl ⟨Nat.le_refl _, Nat.le_refl _⟩ rfl dX4_readRelation_106 ?_
        refine ca_mem (μ'' := up (up μ k n0) 15 (t_adv (l_r4 p))) (by simp only [mem4, up_s]) ?_
        refine ca_aload_nr h dX4_readRelation_109 rfl ?_
        refine ca_aload_nr h dX4_readRelation_110 rfl ?_
        refine rd_t4 h hr dX4_readRelation_111 ?_
        refine ca_iconst h dX4_readRelation_114 ik_0 ?_
        refine ca_bipush h dX4_readRelation_115 bk_30 ?_
        refine ca_vi h hG ml_X4_73 (c_X10_takeNumber hs (by rw [up_s]; exact k_tx_adv (l_r4_tx hqp))) (ci := 10) rfl rfl rfl (hs.1 _ _ _ ⟨rfl, rfl⟩) rfl rfl rfl rfl ⟨Nat.le_refl _, Nat.le_refl _⟩ rfl dX4_readRelation_117 ?_
        refine ca_top (show _ = (l_r5 p).1 by rw [up_s]; rfl) ?_
        refine ca_mem (μ'' := up (up μ k n0) 15 (l_r5 p).2) (by simp only [mem4, up_s]; rfl) ?_
        refine pi_X4_122 h (hs.1 _ _ _ (vR hk (k_rx_le _ _))) dX4_readRelation_120 ?_
        refine ca_aload_nr h dX4_readRelation_123 rfl ?_
        refine ca_iconst h dX4_readRelation_124 ik_1 ?_
        refine pi_X4_116 h (hs.1 _ _ _ (vR hk (k_rx_le _ _))) (by first | exact Or.inl rfl | exact Or.inr rfl | assumption) dX4_readRelation_125 ?_
        refine ca_aload_nr h dX4_readRelation_128 rfl ?_
        refine rd_n4 h hr dX4_readRelation_129 ?_
        refine ca_dup h dX4_readRelation_132 rfl ?_
        refine gi_X4_106 h (hs.1 _ _ _ ⟨hk, rfl⟩) dX4_readRelation_133 ?_
        refine ca_iconst h dX4_readRelation_136 ik_1 ?_
        refine ca_iadd h dX4_readRelation_137 ?_
        refine pi_X4_106 h (hs.1 _ _ _ ⟨hk, rfl⟩) dX4_readRelation_138 ?_
        refine ca_vreturn h hR dX4_readRelation_141 ?_
        have c9 := c_9
        rw [mem3 hk15] at c9
        exact ⟨rfl, rfl, by rw [← hn0, ← hq0, ← hp]; unfold l_rel; rw [hp2, if_neg (fun z => z c9)]; simp only [ch_st_nw, mem3 hk15, mem2 hk15, up_s, mem4]; rw [nw_k (show (0 : Nat) ≠ 2 by decide), nw_k (show (0 : Nat) ≠ 2 by decide)]⟩
      ·
        refine ca_aload_nr h dX4_readRelation_94 rfl ?_
        refine rd_t4 h hr dX4_readRelation_95 ?_
        refine ca_iconst h dX4_readRelation_98 ik_4 ?_
        refine ca_vv h hG ml_X4_58 (c_X10_fail hs) (ci := 10) rfl rfl rfl (hs.1 _ _ _ ⟨rfl, rfl⟩) rfl rfl rfl rfl ⟨Nat.le_refl _, Nat.le_refl _⟩ rfl dX4_readRelation_99 ?_
        have c9 := c_91
        rw [mem3 hk15] at c9
        refine ca_mem (μ'' := up (up μ k n0) 15 (l_r4 p)) (by unfold l_r4; rw [hp2, if_neg c9]; simp only [mem4, up_s]) ?_
        refine ca_aload_nr h dX4_readRelation_102 rfl ?_
        refine rd_t4 h hr dX4_readRelation_103 ?_
        refine ca_vv h hG ml_X4_66 (c_X10_advance hs (by rw [up_s]; exact (l_r4_tx hqp).1)) (ci := 10) rfl rfl rfl (hs.1 _ _ _ ⟨rfl, rfl⟩) rfl rfl rfl rfl ⟨Nat.le_refl _, Nat.le_refl _⟩ rfl dX4_readRelation_106 ?_
        refine ca_mem (μ'' := up (up μ k n0) 15 (t_adv (l_r4 p))) (by simp only [mem4, up_s]) ?_
        refine ca_aload_nr h dX4_readRelation_109 rfl ?_
        refine ca_aload_nr h dX4_readRelation_110 rfl ?_
        refine rd_t4 h hr dX4_readRelation_111 ?_
        refine ca_iconst h dX4_readRelation_114 ik_0 ?_
        refine ca_bipush h dX4_readRelation_115 bk_30 ?_
        refine ca_vi h hG ml_X4_73 (c_X10_takeNumber hs (by rw [up_s]; exact k_tx_adv (l_r4_tx hqp))) (ci := 10) rfl rfl rfl (hs.1 _ _ _ ⟨rfl, rfl⟩) rfl rfl rfl rfl ⟨Nat.le_refl _, Nat.le_refl _⟩ rfl dX4_readRelation_117 ?_
        refine ca_top (show _ = (l_r5 p).1 by rw [up_s]; rfl) ?_
        refine ca_mem (μ'' := up (up μ k n0) 15 (l_r5 p).2) (by simp only [mem4, up_s]; rfl) ?_
        refine pi_X4_122 h (hs.1 _ _ _ (vR hk (k_rx_le _ _))) dX4_readRelation_120 ?_
        refine ca_aload_nr h dX4_readRelation_123 rfl ?_
        refine ca_iconst h dX4_readRelation_124 ik_1 ?_
        refine pi_X4_116 h (hs.1 _ _ _ (vR hk (k_rx_le _ _))) (by first | exact Or.inl rfl | exact Or.inr rfl | assumption) dX4_readRelation_125 ?_
        refine ca_aload_nr h dX4_readRelation_128 rfl ?_
        refine rd_n4 h hr dX4_readRelation_129 ?_
        refine ca_dup h dX4_readRelation_132 rfl ?_
        refine gi_X4_106 h (hs.1 _ _ _ ⟨hk, rfl⟩) dX4_readRelation_133 ?_
        refine ca_iconst h dX4_readRelation_136 ik_1 ?_
        refine ca_iadd h dX4_readRelation_137 ?_
        refine pi_X4_106 h (hs.1 _ _ _ ⟨hk, rfl⟩) dX4_readRelation_138 ?_
        refine ca_vreturn h hR dX4_readRelation_141 ?_
        have c9 := c_9
        rw [mem3 hk15] at c9
        exact ⟨rfl, rfl, by rw [← hn0, ← hq0, ← hp]; unfold l_rel; rw [hp2, if_neg (fun z => z c9)]; simp only [ch_st_nw, mem3 hk15, mem2 hk15, up_s, mem4]; rw [nw_k (show (0 : Nat) ≠ 2 by decide), nw_k (show (0 : Nat) ≠ 2 by decide)]⟩
    ·
      refine ca_aload_nr h dX4_readRelation_69 rfl ?_
      refine rd_t4 h hr dX4_readRelation_70 ?_
      refine ca_iconst h dX4_readRelation_73 ik_2 ?_
      refine ca_vv h hG ml_X4_58 (c_X10_fail hs) (ci := 10) rfl rfl rfl (hs.1 _ _ _ ⟨rfl, rfl⟩) rfl rfl rfl rfl ⟨Nat.le_refl _, Nat.le_refl _⟩ rfl dX4_readRelation_74 ?_
      refine ca_mem (μ'' := up (up μ k n0) 15 (l_r3 p)) (by unfold l_r3; rw [if_pos c_66]; simp only [mem4, up_s]) ?_
      refine ca_aload_nr h dX4_readRelation_77 rfl ?_
      refine rd_n4 h hr dX4_readRelation_78 ?_
      refine ca_iload_n h dX4_readRelation_81 rfl ?_
      refine ca_iload_n h dX4_readRelation_82 rfl ?_
      refine ca_vr h hG ml_X4_112 (c_X3_relationAt hs hk) (ci := 3) rfl rfl rfl (hs.1 _ _ _ ⟨hk, rfl⟩) rfl rfl rfl rfl ⟨Nat.le_refl _, Nat.le_refl _⟩ rfl dX4_readRelation_83 ?_
      refine ca_astore_n h dX4_readRelation_86 rfl ?_
      refine ca_aload_nr h dX4_readRelation_87 rfl ?_
      refine gi_X4_116 h (hs.1 _ _ _ (vR hk (k_rx_le _ _))) dX4_readRelation_88 ?_
      refine ca_if_eq (tgt := 102) h dX4_readRelation_91 (by decide) (fun c_91 => ?_) (fun c_91 => ?_)
      ·
        have c9 := c_91
        rw [mem3 hk15] at c9
        refine ca_mem (μ'' := up (up μ k n0) 15 (l_r4 p)) (by unfold l_r4; rw [hp2, if_pos c9]) ?_
        refine ca_aload_nr h dX4_readRelation_102 rfl ?_
        refine rd_t4 h hr dX4_readRelation_103 ?_
        refine ca_vv h hG ml_X4_66 (c_X10_advance hs (by rw [up_s]; exact (l_r4_tx hqp).1)) (ci := 10) rfl rfl rfl (hs.1 _ _ _ ⟨rfl, rfl⟩) rfl rfl rfl rfl ⟨Nat.le_refl _, Nat.le_refl _⟩ rfl dX4_readRelation_106 ?_
        refine ca_mem (μ'' := up (up μ k n0) 15 (t_adv (l_r4 p))) (by simp only [mem4, up_s]) ?_
        refine ca_aload_nr h dX4_readRelation_109 rfl ?_
        refine ca_aload_nr h dX4_readRelation_110 rfl ?_
        refine rd_t4 h hr dX4_readRelation_111 ?_
        refine ca_iconst h dX4_readRelation_114 ik_0 ?_
        refine ca_bipush h dX4_readRelation_115 bk_30 ?_
        refine ca_vi h hG ml_X4_73 (c_X10_takeNumber hs (by rw [up_s]; exact k_tx_adv (l_r4_tx hqp))) (ci := 10) rfl rfl rfl (hs.1 _ _ _ ⟨rfl, rfl⟩) rfl rfl rfl rfl ⟨Nat.le_refl _, Nat.le_refl _⟩ rfl dX4_readRelation_117 ?_
        refine ca_top (show _ = (l_r5 p).1 by rw [up_s]; rfl) ?_
        refine ca_mem (μ'' := up (up μ k n0) 15 (l_r5 p).2) (by simp only [mem4, up_s]; rfl) ?_
        refine pi_X4_122 h (hs.1 _ _ _ (vR hk (k_rx_le _ _))) dX4_readRelation_120 ?_
        refine ca_aload_nr h dX4_readRelation_123 rfl ?_
        refine ca_iconst h dX4_readRelation_124 ik_1 ?_
        refine pi_X4_116 h (hs.1 _ _ _ (vR hk (k_rx_le _ _))) (by first | exact Or.inl rfl | exact Or.inr rfl | assumption) dX4_readRelation_125 ?_
        refine ca_aload_nr h dX4_readRelation_128 rfl ?_
        refine rd_n4 h hr dX4_readRelation_129 ?_
        refine ca_dup h dX4_readRelation_132 rfl ?_
        refine gi_X4_106 h (hs.1 _ _ _ ⟨hk, rfl⟩) dX4_readRelation_133 ?_
        refine ca_iconst h dX4_readRelation_136 ik_1 ?_
        refine ca_iadd h dX4_readRelation_137 ?_
        refine pi_X4_106 h (hs.1 _ _ _ ⟨hk, rfl⟩) dX4_readRelation_138 ?_
        refine ca_vreturn h hR dX4_readRelation_141 ?_
        have c9 := c_9
        rw [mem3 hk15] at c9
        exact ⟨rfl, rfl, by rw [← hn0, ← hq0, ← hp]; unfold l_rel; rw [hp2, if_neg (fun z => z c9)]; simp only [ch_st_nw, mem3 hk15, mem2 hk15, up_s, mem4]; rw [nw_k (show (0 : Nat) ≠ 2 by decide), nw_k (show (0 : Nat) ≠ 2 by decide)]⟩
      ·
        refine ca_aload_nr h dX4_readRelation_94 rfl ?_
        refine rd_t4 h hr dX4_readRelation_95 ?_
        refine ca_iconst h dX4_readRelation_98 ik_4 ?_
        refine ca_vv h hG ml_X4_58 (c_X10_fail hs) (ci := 10) rfl rfl rfl (hs.1 _ _ _ ⟨rfl, rfl⟩) rfl rfl rfl rfl ⟨Nat.le_refl _, Nat.le_refl _⟩ rfl dX4_readRelation_99 ?_
        have c9 := c_91
        rw [mem3 hk15] at c9
        refine ca_mem (μ'' := up (up μ k n0) 15 (l_r4 p)) (by unfold l_r4; rw [hp2, if_neg c9]; simp only [mem4, up_s]) ?_
        refine ca_aload_nr h dX4_readRelation_102 rfl ?_
        refine rd_t4 h hr dX4_readRelation_103 ?_
        refine ca_vv h hG ml_X4_66 (c_X10_advance hs (by rw [up_s]; exact (l_r4_tx hqp).1)) (ci := 10) rfl rfl rfl (hs.1 _ _ _ ⟨rfl, rfl⟩) rfl rfl rfl rfl ⟨Nat.le_refl _, Nat.le_refl _⟩ rfl dX4_readRelation_106 ?_
        refine ca_mem (μ'' := up (up μ k n0) 15 (t_adv (l_r4 p))) (by simp only [mem4, up_s]) ?_
        refine ca_aload_nr h dX4_readRelation_109 rfl ?_
        refine ca_aload_nr h dX4_readRelation_110 rfl ?_
        refine rd_t4 h hr dX4_readRelation_111 ?_
        refine ca_iconst h dX4_readRelation_114 ik_0 ?_
        refine ca_bipush h dX4_readRelation_115 bk_30 ?_
        refine ca_vi h hG ml_X4_73 (c_X10_takeNumber hs (by rw [up_s]; exact k_tx_adv (l_r4_tx hqp))) (ci := 10) rfl rfl rfl (hs.1 _ _ _ ⟨rfl, rfl⟩) rfl rfl rfl rfl ⟨Nat.le_refl _, Nat.le_refl _⟩ rfl dX4_readRelation_117 ?_
        refine ca_top (show _ = (l_r5 p).1 by rw [up_s]; rfl) ?_
        refine ca_mem (μ'' := up (up μ k n0) 15 (l_r5 p).2) (by simp only [mem4, up_s]; rfl) ?_
        refine pi_X4_122 h (hs.1 _ _ _ (vR hk (k_rx_le _ _))) dX4_readRelation_120 ?_
        refine ca_aload_nr h dX4_readRelation_123 rfl ?_
        refine ca_iconst h dX4_readRelation_124 ik_1 ?_
        refine pi_X4_116 h (hs.1 _ _ _ (vR hk (k_rx_le _ _))) (by first | exact Or.inl rfl | exact Or.inr rfl | assumption) dX4_readRelation_125 ?_
        refine ca_aload_nr h dX4_readRelation_128 rfl ?_
        refine rd_n4 h hr dX4_readRelation_129 ?_
        refine ca_dup h dX4_readRelation_132 rfl ?_
        refine gi_X4_106 h (hs.1 _ _ _ ⟨hk, rfl⟩) dX4_readRelation_133 ?_
        refine ca_iconst h dX4_readRelation_136 ik_1 ?_
        refine ca_iadd h dX4_readRelation_137 ?_
        refine pi_X4_106 h (hs.1 _ _ _ ⟨hk, rfl⟩) dX4_readRelation_138 ?_
        refine ca_vreturn h hR dX4_readRelation_141 ?_
        have c9 := c_9
        rw [mem3 hk15] at c9
        exact ⟨rfl, rfl, by rw [← hn0, ← hq0, ← hp]; unfold l_rel; rw [hp2, if_neg (fun z => z c9)]; simp only [ch_st_nw, mem3 hk15, mem2 hk15, up_s, mem4]; rw [nw_k (show (0 : Nat) ≠ 2 by decide), nw_k (show (0 : Nat) ≠ 2 by decide)]⟩
  ·
    refine ca_aload_nr h dX4_readRelation_12 rfl ?_
    refine rd_t4 h hr dX4_readRelation_13 ?_
    refine ca_iconst h dX4_readRelation_16 ik_3 ?_
    refine ca_vv h hG ml_X4_58 (c_X10_fail hs) (ci := 10) rfl rfl rfl (hs.1 _ _ _ ⟨rfl, rfl⟩) rfl rfl rfl rfl ⟨Nat.le_refl _, Nat.le_refl _⟩ rfl dX4_readRelation_17 ?_
    refine ca_vreturn h hR dX4_readRelation_20 ?_
    have c9 := c_9
    rw [mem3 hk15] at c9
    exact ⟨rfl, rfl, by unfold l_rel; rw [← hn0, ← hq0, if_pos c9]; simp only [up_s, mem4]⟩
set_option maxHeartbeats 100000 in
theorem c_X4_readClause {l : Launch} {E : ch_E} {S : ch_S} {μ : ch_M} {k : Nat} (hs : ch_Std E S) (hr : ch_Rd S 35 k) (hk : k < 15) (hq : k_tx (μ 15)) : ch_C E l yX4_readClause cX4_readClause 1 none 6 0 0 S μ [.ref (S.1 15 35 0)] (ch_F none S (up (up μ k (l_cl (μ 15, μ k)).2) 15 (l_cl (μ 15, μ k)).1)) := by
  refine ch_enter rfl rfl ?_
  intro X hl0 h hG hR hnm
  have h : ch_H X E RX4 cX4_readClause 1 := h
  show ch_W X E 1 S μ 0 0 0 [(0, .ref (S.1 15 35 0))] []
  refine ca_aload_nr h dX4_readClause_0 rfl ?_
  refine rd_t4 h hr dX4_readClause_1 ?_
  refine ca_ldcs h (i := 39) (List.mem_of_getElem? (i := 4) rfl) dX4_readClause_4 ?_
  refine ca_vi h hG ml_X4_41 (c_X10_is hs hq (by decide)) (ci := 10) rfl rfl rfl (hs.1 _ _ _ ⟨rfl, rfl⟩) rfl rfl rfl rfl ⟨Nat.le_refl _, Nat.le_refl _⟩ rfl dX4_readClause_6 ?_
  refine ca_if_eq (tgt := 19) h dX4_readClause_9 (by decide) (fun c_9 => ?_) (fun c_9 => ?_)
  ·
    refine ca_aload_nr h dX4_readClause_19 rfl ?_
    refine rd_t4 h hr dX4_readClause_20 ?_
    refine ca_ldcs h (i := 48) (List.mem_of_getElem? (i := 5) rfl) dX4_readClause_23 ?_
    refine ca_vi h hG ml_X4_41 (c_X10_is hs hq (by decide)) (ci := 10) rfl rfl rfl (hs.1 _ _ _ ⟨rfl, rfl⟩) rfl rfl rfl rfl ⟨Nat.le_refl _, Nat.le_refl _⟩ rfl dX4_readClause_25 ?_
    refine ca_if_eq (tgt := 38) h dX4_readClause_28 (by decide) (fun c_28 => ?_) (fun c_28 => ?_)
    ·
      refine ca_aload_nr h dX4_readClause_38 rfl ?_
      refine rd_t4 h hr dX4_readClause_39 ?_
      refine ca_ldcs h (i := 53) (List.mem_of_getElem? (i := 6) rfl) dX4_readClause_42 ?_
      refine ca_vi h hG ml_X4_41 (c_X10_is hs hq (by decide)) (ci := 10) rfl rfl rfl (hs.1 _ _ _ ⟨rfl, rfl⟩) rfl rfl rfl rfl ⟨Nat.le_refl _, Nat.le_refl _⟩ rfl dX4_readClause_44 ?_
      refine ca_if_eq (tgt := 57) h dX4_readClause_47 (by decide) (fun c_47 => ?_) (fun c_47 => ?_)
      ·
        refine ca_aload_nr h dX4_readClause_57 rfl ?_
        refine rd_t4 h hr dX4_readClause_58 ?_
        refine ca_iconst h dX4_readClause_61 ik_1 ?_
        refine ca_vv h hG ml_X4_58 (c_X10_fail hs) (ci := 10) rfl rfl rfl (hs.1 _ _ _ ⟨rfl, rfl⟩) rfl rfl rfl rfl ⟨Nat.le_refl _, Nat.le_refl _⟩ rfl dX4_readClause_62 ?_
        refine ca_vreturn h hR dX4_readClause_65 ?_
        exact ⟨rfl, rfl, by unfold l_cl; rw [if_neg (fun z => bI_n0.mpr z c_9), if_neg (fun z => bI_n0.mpr z c_28), if_neg (fun z => bI_n0.mpr z c_47), up_id]⟩
      ·
        refine ca_aload_nr h dX4_readClause_50 rfl ?_
        refine ca_vv h hG ml_X4_55 (c_X4_readSettings hs hr hk hq) (ci := 4) rfl rfl rfl hr.1 rfl rfl rfl rfl ⟨Nat.le_refl _, Nat.le_refl _⟩ rfl dX4_readClause_51 ?_
        refine ca_goto (tgt := 65) h dX4_readClause_54 (by decide) ?_
        refine ca_vreturn h hR dX4_readClause_65 ?_
        exact ⟨rfl, rfl, by unfold l_cl; rw [if_neg (fun z => bI_n0.mpr z c_9), if_neg (fun z => bI_n0.mpr z c_28), if_pos (bI_n0.mp c_47)]⟩
    ·
      refine ca_aload_nr h dX4_readClause_31 rfl ?_
      refine ca_vv h hG ml_X4_50 (c_X4_readRelation hs hr hk hq) (ci := 4) rfl rfl rfl hr.1 rfl rfl rfl rfl ⟨Nat.le_refl _, Nat.le_refl _⟩ rfl dX4_readClause_32 ?_
      refine ca_goto (tgt := 65) h dX4_readClause_35 (by decide) ?_
      refine ca_vreturn h hR dX4_readClause_65 ?_
      exact ⟨rfl, rfl, by unfold l_cl; rw [if_neg (fun z => bI_n0.mpr z c_9), if_pos (bI_n0.mp c_28)]⟩
  ·
    refine ca_aload_nr h dX4_readClause_12 rfl ?_
    refine ca_vv h hG ml_X4_45 (c_X4_readCell hs hr hk hq) (ci := 4) rfl rfl rfl hr.1 rfl rfl rfl rfl ⟨Nat.le_refl _, Nat.le_refl _⟩ rfl dX4_readClause_13 ?_
    refine ca_goto (tgt := 65) h dX4_readClause_16 (by decide) ?_
    refine ca_vreturn h hR dX4_readClause_65 ?_
    exact ⟨rfl, rfl, by unfold l_cl; rw [if_pos (bI_n0.mp c_9)]⟩
set_option maxHeartbeats 100000 in
theorem c_X4_readNetwork {l : Launch} {E : ch_E} {S : ch_S} {μ : ch_M} {k : Nat} (hs : ch_Std E S) (hr : ch_Rd S 35 k) (hk : k < 15) (hq : k_tx (μ 15)) : ch_C E l yX4_readNetwork cX4_readNetwork 2 none 7 0 0 S μ [.ref (S.1 15 35 0)] (ch_F none S (up (up μ k (l_net (μ 15, μ k)).2) 15 (l_net (μ 15, μ k)).1)) := by
  refine ch_enter rfl rfl ?_
  intro X hl0 h hG hR hnm
  have h : ch_H X E RX4 cX4_readNetwork 2 := h
  have hk15 : k ≠ 15 := by omega
  obtain ⟨n0, hn0⟩ : ∃ z, z = μ k := ⟨_, rfl⟩
  obtain ⟨q0, hq0⟩ : ∃ z, z = μ 15 := ⟨_, rfl⟩
  rw [← hq0] at hq
  show ch_W X E 2 S μ 0 0 0 [(0, .ref (S.1 15 35 0))] []
  refine ca_mem (μ'' := up (up μ k n0) 15 q0) (by rw [hn0, hq0, mem0 hk15]) ?_
  refine ca_aload_nr h dX4_readNetwork_0 rfl ?_
  refine rd_n4 h hr dX4_readNetwork_1 ?_
  refine ca_vv h hG ml_X4_19 (c_X3_clear hs hk) (ci := 3) rfl rfl rfl (hs.1 _ _ _ ⟨hk, rfl⟩) rfl rfl rfl rfl ⟨Nat.le_refl _, Nat.le_refl _⟩ rfl dX4_readNetwork_4 ?_
  refine ca_iconst h dX4_readNetwork_7 ik_0 ?_
  refine ca_istore_n h dX4_readNetwork_8 rfl ?_
  have loop_9 : ∀ (jj n : Nat), n + jj = 700 → ∀ (x1 : Int32) (e1 : x1 = nI n) (p : ch_P2) (g : k_tx p.1) (hx : l_net (q0, n0) = l_nL jj p) (mm : ch_M) (em : mm = up (up μ k p.2) 15 p.1), ch_W X E 2 S mm 0 0 9 [(0, .ref (S.1 15 35 0)), (1, .int x1)] [] := by
    intro jj
    induction jj with
    | zero =>
      intro n hn x1 e1 p g hx mm em
      have hn : n = 700 := by omega
      subst e1 em
      refine ca_iload_n h dX4_readNetwork_9 rfl ?_
      refine ca_sipush h dX4_readNetwork_10 sk_700 ?_
      refine ca_icmp_ge (tgt := 45) h dX4_readNetwork_13 (by decide) (fun c_13 => ?_) (fun c_13 => ?_)
      ·
        refine ca_vreturn h hR dX4_readNetwork_45 ?_
        exact ⟨rfl, rfl, by rw [← hn0, ← hq0, hx]; rfl⟩
      · exact absurd c_13 (by rw [hn]; decide)
    | succ jj ih_9 =>
      intro n hn x1 e1 p g hx mm em
      have hn1 : n < 700 := by omega
      subst e1 em
      refine ca_iload_n h dX4_readNetwork_9 rfl ?_
      refine ca_sipush h dX4_readNetwork_10 sk_700 ?_
      refine ca_icmp_ge (tgt := 45) h dX4_readNetwork_13 (by decide) (fun c_13 => ?_) (fun c_13 => ?_)
      · exact absurd (nI_lt (b := 700) hn1 (by decide)) c_13
      ·
        refine ca_aload_nr h dX4_readNetwork_16 rfl ?_
        refine rd_t4 h hr dX4_readNetwork_17 ?_
        refine ca_vi h hG ml_X4_24 (c_X10_goesOn hs) (ci := 10) rfl rfl rfl (hs.1 _ _ _ ⟨rfl, rfl⟩) rfl rfl rfl rfl ⟨Nat.le_refl _, Nat.le_refl _⟩ rfl dX4_readNetwork_20 ?_
        refine ca_if_eq (tgt := 45) h dX4_readNetwork_23 (by decide) (fun c_23 => ?_) (fun c_23 => ?_)
        ·
          refine ca_vreturn h hR dX4_readNetwork_45 ?_
          have c9 := c_23
          rw [up_s] at c9
          exact ⟨rfl, rfl, by rw [← hn0, ← hq0, hx, l_nL_s, if_neg (fun z => bI_n0.mpr z c9)]⟩
        ·
          refine ca_aload_nr h dX4_readNetwork_26 rfl ?_
          refine ca_vv h hG ml_X4_30 (c_X4_readClause hs hr hk (by rw [up_s]; exact g)) (ci := 4) rfl rfl rfl hr.1 rfl rfl rfl rfl ⟨Nat.le_refl _, Nat.le_refl _⟩ rfl dX4_readNetwork_27 ?_
          refine ca_mem (μ'' := up (up μ k (l_cl p).2) 15 (l_cl p).1) (by simp only [mem2 hk15, mem3 hk15, mem4, up_s]) ?_
          refine ca_aload_nr h dX4_readNetwork_30 rfl ?_
          refine rd_t4 h hr dX4_readNetwork_31 ?_
          refine ca_ldcs h (i := 33) (List.mem_of_getElem? (i := 7) rfl) dX4_readNetwork_34 ?_
          refine ca_vv h hG ml_X4_35 (c_X10_expect hs (by rw [up_s]; exact l_cl_tx g) (by decide)) (ci := 10) rfl rfl rfl (hs.1 _ _ _ ⟨rfl, rfl⟩) rfl rfl rfl rfl ⟨Nat.le_refl _, Nat.le_refl _⟩ rfl dX4_readNetwork_36 ?_
          refine ca_iinc h dX4_readNetwork_39 rfl ik_1 rfl ?_
          refine ca_goto (tgt := 9) h dX4_readNetwork_42 (by decide) ?_
          refine ca_pick [1, 0] rfl ?_
          exact ih_9 (n + 1) (by omega) _ (nI_1 n) (t_exp (l_cl p).1 4, (l_cl p).2) (k_tx_exp (l_cl_tx g) _) (by rw [hx, l_nL_s, if_pos (by have c9 := c_23; rw [up_s] at c9; exact bI_n0.mp c9)]) _ (by simp only [mem4, up_s])
  refine ca_pick [1, 0] rfl ?_
  exact loop_9 _ 0 (Nat.zero_add _) _ rfl (q0, k_clear n0) hq rfl _ (by simp only [mem2 hk15, mem3 hk15])
