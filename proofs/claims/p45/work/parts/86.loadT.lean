/-! load and query, behind the reader's constructor -/
theorem t_open_tx {q : ch_N} {e : Nat} (he : e ≤ 700) : k_tx (t_open q (nI e)) := by
  have e4 : (nw (nw (nw q 12 0 4 (nI e)) 12 0 6 0) 12 0 1 0) 12 0 4 = nI e := by simp [nw_at]
  have e6 : (nw (nw (nw q 12 0 4 (nI e)) 12 0 6 0) 12 0 1 0) 12 0 6 = nI 0 := by simp [nw_at]; rfl
  have e1 : (nw (nw (nw q 12 0 4 (nI e)) 12 0 6 0) 12 0 1 0) 12 0 1 = 0 := by simp [nw_at]
  unfold t_open
  refine k_tx_adv0 ?_ e1
  unfold k_tn t_e t_n
  rw [e4, e6, nI_clamp (show e < 2 ^ 31 by omega), nI_clamp (show 0 < 2 ^ 31 by omega)]
  exact ⟨rfl, he, rfl, Nat.zero_le _⟩
theorem t_close_1 (q : ch_N) : t_close q 12 0 1 = q 12 0 1 := by unfold t_close; rw [nw_at, if_neg (by decide), nw_at, if_neg (by decide)]
theorem k_cp_000 (n m : ch_N) : k_cp n m 0 0 0 = m 0 0 0 := by
  unfold k_cp
  rw [na_k (by decide)]
  unfold k_cpP
  rw [if_neg (by omega)]
  unfold k_cph
  simp [nw_at]
set_option maxHeartbeats 400000 in
theorem c_X11_load_e {X : ch_X} {E : ch_E} {S : ch_S} {μ : ch_M} (hs : ch_Std E S) (h : ch_H X E RX11 cX11_load 2) {Post : Option Value → ch_S → ch_M → Prop} (hG : ch_G X 8 1 2) (hR : ch_R X E (some .int) 1 2 Post) (hr : ch_Rd S 35 1) (hq : k_tx (μ 15)) {e : Int32} (he : ¬ (l_net (μ 15, μ 1)).1 12 0 1 = 0) (hp : Post (some (.int (-10 - (l_net (μ 15, μ 1)).1 12 0 1))) S (up (up μ 1 (l_net (μ 15, μ 1)).2) 15 (t_close (l_net (μ 15, μ 1)).1))) : ch_W X E 2 S μ 1 2 35 [(1, .int e), (0, .ref (S.1 15 11 0))] [.ref (S.1 15 35 0)] := by
  refine ca_vv h hG ml_X11_74 (c_X4_readNetwork hs hr (by decide) hq) (ci := 4) rfl rfl rfl hr.1 rfl rfl rfl rfl ⟨Nat.le_of_ble_eq_true rfl, Nat.le_of_ble_eq_true rfl⟩ rfl dX11_load_35 ?_
  obtain ⟨qa, hqa⟩ : ∃ z, z = (l_net (μ 15, μ 1)).1 := ⟨_, rfl⟩
  obtain ⟨tr, htr⟩ : ∃ z, z = (l_net (μ 15, μ 1)).2 := ⟨_, rfl⟩
  rw [← hqa] at he hp ⊢
  rw [← htr] at hp ⊢
  refine ca_aload_nr h dX11_load_38 rfl ?_
  refine gs_X11_10 h hs (by show _ ∧ _; exact ⟨by first | assumption | rfl | omega, by first | assumption | rfl | omega⟩) dX11_load_39 ?_
  refine ca_vv h hG ml_X11_77 (c_X10_close hs) (ci := 10) rfl rfl rfl (hs.1 _ _ _ (by show _ ∧ _; exact ⟨by first | assumption | rfl | omega, by first | assumption | rfl | omega⟩)) rfl rfl rfl rfl ⟨Nat.le_of_ble_eq_true rfl, Nat.le_of_ble_eq_true rfl⟩ rfl dX11_load_42 ?_
  rw [up_s, up_up]
  refine ca_aload_nr h dX11_load_45 rfl ?_
  refine gs_X11_10 h hs (by show _ ∧ _; exact ⟨by first | assumption | rfl | omega, by first | assumption | rfl | omega⟩) dX11_load_46 ?_
  refine gi_X11_80 h (hs.1 _ _ _ (by show _ ∧ _; exact ⟨by first | assumption | rfl | omega, by first | assumption | rfl | omega⟩)) dX11_load_49 ?_
  refine ca_if_eq (tgt := 66) h dX11_load_52 (by decide) (fun c_52 => ?_) (fun c_52 => ?_)
  · exact absurd (show qa 12 0 1 = 0 by have c9 := c_52; rw [up_s, t_close_1] at c9; exact c9) he
  ·
    refine ca_bipush h dX11_load_55 bk_m10 ?_
    refine ca_aload_nr h dX11_load_57 rfl ?_
    refine gs_X11_10 h hs (by show _ ∧ _; exact ⟨by first | assumption | rfl | omega, by first | assumption | rfl | omega⟩) dX11_load_58 ?_
    refine gi_X11_80 h (hs.1 _ _ _ (by show _ ∧ _; exact ⟨by first | assumption | rfl | omega, by first | assumption | rfl | omega⟩)) dX11_load_61 ?_
    refine ca_isub h dX11_load_64 ?_
    refine ca_ireturn h hR rfl dX11_load_65 ?_
    have e1 : (up (up μ 1 tr) 15 (t_close qa)) 15 12 0 1 = qa 12 0 1 := by rw [up_s, t_close_1]
    rw [e1]
    exact hp
set_option maxHeartbeats 400000 in
theorem c_X11_load_s {X : ch_X} {E : ch_E} {S : ch_S} {μ : ch_M} (hs : ch_Std E S) (h : ch_H X E RX11 cX11_load 2) {Post : Option Value → ch_S → ch_M → Prop} (hG : ch_G X 8 1 2) (hR : ch_R X E (some .int) 1 2 Post) (hr : ch_Rd S 35 1) (hq : k_tx (μ 15)) {e : Int32} (he : (l_net (μ 15, μ 1)).1 12 0 1 = 0) (hp : Post (some (.int ((l_net (μ 15, μ 1)).2 0 0 0))) S (up (up (up μ 1 (l_net (μ 15, μ 1)).2) 0 (k_cp (μ 0) (l_net (μ 15, μ 1)).2)) 15 (nw (t_close (l_net (μ 15, μ 1)).1) 14 0 0 0))) : ch_W X E 2 S μ 1 2 35 [(1, .int e), (0, .ref (S.1 15 11 0))] [.ref (S.1 15 35 0)] := by
  refine ca_vv h hG ml_X11_74 (c_X4_readNetwork hs hr (by decide) hq) (ci := 4) rfl rfl rfl hr.1 rfl rfl rfl rfl ⟨Nat.le_of_ble_eq_true rfl, Nat.le_of_ble_eq_true rfl⟩ rfl dX11_load_35 ?_
  obtain ⟨qa, hqa⟩ : ∃ z, z = (l_net (μ 15, μ 1)).1 := ⟨_, rfl⟩
  obtain ⟨tr, htr⟩ : ∃ z, z = (l_net (μ 15, μ 1)).2 := ⟨_, rfl⟩
  rw [← hqa] at he hp ⊢
  rw [← htr] at hp ⊢
  refine ca_aload_nr h dX11_load_38 rfl ?_
  refine gs_X11_10 h hs (by show _ ∧ _; exact ⟨by first | assumption | rfl | omega, by first | assumption | rfl | omega⟩) dX11_load_39 ?_
  refine ca_vv h hG ml_X11_77 (c_X10_close hs) (ci := 10) rfl rfl rfl (hs.1 _ _ _ (by show _ ∧ _; exact ⟨by first | assumption | rfl | omega, by first | assumption | rfl | omega⟩)) rfl rfl rfl rfl ⟨Nat.le_of_ble_eq_true rfl, Nat.le_of_ble_eq_true rfl⟩ rfl dX11_load_42 ?_
  rw [up_s, up_up]
  refine ca_aload_nr h dX11_load_45 rfl ?_
  refine gs_X11_10 h hs (by show _ ∧ _; exact ⟨by first | assumption | rfl | omega, by first | assumption | rfl | omega⟩) dX11_load_46 ?_
  refine gi_X11_80 h (hs.1 _ _ _ (by show _ ∧ _; exact ⟨by first | assumption | rfl | omega, by first | assumption | rfl | omega⟩)) dX11_load_49 ?_
  refine ca_if_eq (tgt := 66) h dX11_load_52 (by decide) (fun c_52 => ?_) (fun c_52 => ?_)
  ·
    refine ca_aload_nr h dX11_load_66 rfl ?_
    refine gs_X11_19 h hs (by show _ ∧ _; exact ⟨by first | assumption | rfl | omega, by first | assumption | rfl | omega⟩) dX11_load_67 ?_
    refine ca_aload_nr h dX11_load_70 rfl ?_
    refine gs_X11_23 h hs (by show _ ∧ _; exact ⟨by first | assumption | rfl | omega, by first | assumption | rfl | omega⟩) dX11_load_71 ?_
    refine ca_vv h hG ml_X11_83 (c_X3_copyFrom hs (by decide) (by decide) (by decide)) (ci := 3) rfl rfl rfl (hs.1 _ _ _ (by show _ ∧ _; exact ⟨by first | assumption | rfl | omega, by first | assumption | rfl | omega⟩)) rfl rfl rfl rfl ⟨Nat.le_of_ble_eq_true rfl, Nat.le_of_ble_eq_true rfl⟩ rfl dX11_load_74 ?_
    rw [up_n (show 0 ≠ 15 by decide), up_n (show 0 ≠ 1 by decide), up_n (show 1 ≠ 15 by decide), up_s]
    refine ca_mem (μ'' := up (up (up μ 1 tr) 0 (k_cp (μ 0) tr)) 15 (t_close qa)) (by rw [up_sw (show 15 ≠ 0 by decide)]) ?_
    refine ca_aload_nr h dX11_load_77 rfl ?_
    refine gs_X11_32 h hs (by show _ ∧ _; exact ⟨by first | assumption | rfl | omega, by first | assumption | rfl | omega⟩) dX11_load_78 ?_
    refine ca_vv h hG ml_X11_87 (c_X1_forget hs) (ci := 1) rfl rfl rfl (hs.1 _ _ _ (by show _ ∧ _; exact ⟨by first | assumption | rfl | omega, by first | assumption | rfl | omega⟩)) rfl rfl rfl rfl ⟨Nat.le_of_ble_eq_true rfl, Nat.le_of_ble_eq_true rfl⟩ rfl dX11_load_81 ?_
    rw [up_s, up_up]
    refine ca_aload_nr h dX11_load_84 rfl ?_
    refine gs_X11_19 h hs (by show _ ∧ _; exact ⟨by first | assumption | rfl | omega, by first | assumption | rfl | omega⟩) dX11_load_85 ?_
    refine gi_X11_90 h (hs.1 _ _ _ (by show _ ∧ _; exact ⟨by first | assumption | rfl | omega, by first | assumption | rfl | omega⟩)) dX11_load_88 ?_
    refine ca_ireturn h hR rfl dX11_load_91 ?_
    have e1 : (up (up (up μ 1 tr) 0 (k_cp (μ 0) tr)) 15 (nw (t_close qa) 14 0 0 0)) 0 0 0 0 = tr 0 0 0 := by rw [up_n (by decide), up_s, k_cp_000]
    rw [e1]
    exact hp
  · exact absurd (show (up (up μ 1 tr) 15 (t_close qa)) 15 12 0 1 = 0 by rw [up_s, t_close_1]; exact he) c_52
set_option maxHeartbeats 100000 in
theorem c_X11_loadE {l : Launch} {E : ch_E} {S : ch_S} {μ : ch_M} (hs : ch_Std E S) {e L : Nat} (hL : μ 15 12 0 0 = nI L) (heL : e ≤ L) (hL7 : L ≤ 700) (he : ¬ (l_net (t_open (μ 15) (nI e), μ 1)).1 12 0 1 = 0) : ch_C E l yX11_load cX11_load 2 (some FieldType.int) 8 1 2 S μ [.ref (S.1 15 11 0), .int (nI e)] (c_PostL E S 35 (-10 - (l_net (t_open (μ 15) (nI e), μ 1)).1 12 0 1) (up (up μ 1 (l_net (t_open (μ 15) (nI e), μ 1)).2) 15 (t_close (l_net (t_open (μ 15) (nI e), μ 1)).1))) := by
  refine ch_enter rfl rfl ?_
  intro X hl0 h hG hR hnm
  have h : ch_H X E RX11 cX11_load 2 := h
  have hxr : k_rg 0 (μ 15 12 0 0) (nI e) := ⟨nI_pos (by omega), by rw [hL]; exact nI_nlt heL (by omega)⟩
  show ch_W X E 2 S μ 0 0 0 [(0, .ref (S.1 15 11 0)), (1, .int (nI e))] []
  refine ca_iload_n h dX11_load_0 rfl ?_
  refine ca_iconst h dX11_load_1 ik_0 ?_
  refine ca_aload_nr h dX11_load_2 rfl ?_
  refine gs_X11_10 h hs (by show _ ∧ _; exact ⟨by first | assumption | rfl | omega, by first | assumption | rfl | omega⟩) dX11_load_3 ?_
  refine gi_X11_54 h (hs.1 _ _ _ (by show _ ∧ _; exact ⟨by first | assumption | rfl | omega, by first | assumption | rfl | omega⟩)) dX11_load_6 ?_
  refine ca_sv h hG ms_X11_62 (c_X11_requireRange hxr) rfl rfl rfl rfl ⟨Nat.le_of_ble_eq_true rfl, Nat.le_of_ble_eq_true rfl⟩ rfl dX11_load_9 ?_
  refine ca_aload_nr h dX11_load_12 rfl ?_
  refine gs_X11_10 h hs (by show _ ∧ _; exact ⟨by first | assumption | rfl | omega, by first | assumption | rfl | omega⟩) dX11_load_13 ?_
  refine ca_iload_n h dX11_load_16 rfl ?_
  refine ca_vv h hG ml_X11_66 (c_X10_open hs (by omega)) (ci := 10) rfl rfl rfl (hs.1 _ _ _ (by show _ ∧ _; exact ⟨by first | assumption | rfl | omega, by first | assumption | rfl | omega⟩)) rfl rfl rfl rfl ⟨Nat.le_of_ble_eq_true rfl, Nat.le_of_ble_eq_true rfl⟩ rfl dX11_load_17 ?_
  have e15 : up μ 15 (t_open (μ 15) (nI e)) 15 = t_open (μ 15) (nI e) := up_s _ _ _
  have e01 : up μ 15 (t_open (μ 15) (nI e)) 1 = μ 1 := up_n (by decide)
  have e00 : up μ 15 (t_open (μ 15) (nI e)) 0 = μ 0 := up_n (by decide)
  have hq : k_tx (t_open (μ 15) (nI e)) := t_open_tx (by omega)
  refine c_X11_load_n hs h rfl hG rfl ?_
  intro S' hs' hr' g1 g2
  refine ca_pick [1, 0] rfl ?_
  rw [← g1 15 11 0 (by decide)]
  exact c_X11_load_e hs' h hG hR hr' (by rw [e15]; exact hq) (by rw [e15, e01]; exact he) (by rw [e15, e01]; exact ⟨rfl, hs', g1, g2, by rw [up_sw (show 15 ≠ 1 by decide), up_up]⟩)
set_option maxHeartbeats 100000 in
theorem c_X11_load {l : Launch} {E : ch_E} {S : ch_S} {μ : ch_M} (hs : ch_Std E S) {e L : Nat} (hL : μ 15 12 0 0 = nI L) (heL : e ≤ L) (hL7 : L ≤ 700) (he : (l_net (t_open (μ 15) (nI e), μ 1)).1 12 0 1 = 0) : ch_C E l yX11_load cX11_load 2 (some FieldType.int) 8 1 2 S μ [.ref (S.1 15 11 0), .int (nI e)] (c_PostL E S 35 ((l_net (t_open (μ 15) (nI e), μ 1)).2 0 0 0) (up (up (up μ 1 (l_net (t_open (μ 15) (nI e), μ 1)).2) 0 (k_cp (μ 0) (l_net (t_open (μ 15) (nI e), μ 1)).2)) 15 (nw (t_close (l_net (t_open (μ 15) (nI e), μ 1)).1) 14 0 0 0))) := by
  refine ch_enter rfl rfl ?_
  intro X hl0 h hG hR hnm
  have h : ch_H X E RX11 cX11_load 2 := h
  have hxr : k_rg 0 (μ 15 12 0 0) (nI e) := ⟨nI_pos (by omega), by rw [hL]; exact nI_nlt heL (by omega)⟩
  show ch_W X E 2 S μ 0 0 0 [(0, .ref (S.1 15 11 0)), (1, .int (nI e))] []
  refine ca_iload_n h dX11_load_0 rfl ?_
  refine ca_iconst h dX11_load_1 ik_0 ?_
  refine ca_aload_nr h dX11_load_2 rfl ?_
  refine gs_X11_10 h hs (by show _ ∧ _; exact ⟨by first | assumption | rfl | omega, by first | assumption | rfl | omega⟩) dX11_load_3 ?_
  refine gi_X11_54 h (hs.1 _ _ _ (by show _ ∧ _; exact ⟨by first | assumption | rfl | omega, by first | assumption | rfl | omega⟩)) dX11_load_6 ?_
  refine ca_sv h hG ms_X11_62 (c_X11_requireRange hxr) rfl rfl rfl rfl ⟨Nat.le_of_ble_eq_true rfl, Nat.le_of_ble_eq_true rfl⟩ rfl dX11_load_9 ?_
  refine ca_aload_nr h dX11_load_12 rfl ?_
  refine gs_X11_10 h hs (by show _ ∧ _; exact ⟨by first | assumption | rfl | omega, by first | assumption | rfl | omega⟩) dX11_load_13 ?_
  refine ca_iload_n h dX11_load_16 rfl ?_
  refine ca_vv h hG ml_X11_66 (c_X10_open hs (by omega)) (ci := 10) rfl rfl rfl (hs.1 _ _ _ (by show _ ∧ _; exact ⟨by first | assumption | rfl | omega, by first | assumption | rfl | omega⟩)) rfl rfl rfl rfl ⟨Nat.le_of_ble_eq_true rfl, Nat.le_of_ble_eq_true rfl⟩ rfl dX11_load_17 ?_
  have e15 : up μ 15 (t_open (μ 15) (nI e)) 15 = t_open (μ 15) (nI e) := up_s _ _ _
  have e01 : up μ 15 (t_open (μ 15) (nI e)) 1 = μ 1 := up_n (by decide)
  have e00 : up μ 15 (t_open (μ 15) (nI e)) 0 = μ 0 := up_n (by decide)
  have hq : k_tx (t_open (μ 15) (nI e)) := t_open_tx (by omega)
  refine c_X11_load_n hs h rfl hG rfl ?_
  intro S' hs' hr' g1 g2
  refine ca_pick [1, 0] rfl ?_
  rw [← g1 15 11 0 (by decide)]
  exact c_X11_load_s hs' h hG hR hr' (by rw [e15]; exact hq) (by rw [e15, e01]; exact he) (by rw [e15, e01, e00]; exact ⟨rfl, hs', g1, g2, by rw [up_sw (show 15 ≠ 1 by decide), up_sw (show 15 ≠ 0 by decide), up_up]⟩)
