theorem pn00 : PN0 0 0 := Or.inl ⟨rfl, rfl⟩
set_option maxHeartbeats 1000000 in
theorem c_X1_init {l : Launch} {E : ch_E} {S : ch_S} {μ : ch_M}  (hv : S.2.1 15 14 0) (hz : μ 15 14 0 = fun _ => 0) (hf : ∀ a b c, ((a = 15 ∧ 14 ≤ b ∧ b ≤ 15 ∧ c = 0) ∨ (3 ≤ a ∧ a < 15 ∧ PN0 b c)) → ¬ (a = 15 ∧ b = 14 ∧ c = 0) → ¬ S.2.1 a b c) : ch_C E l yX1_init cX1_init 2 (Option.none : Option Jvm.ClassFile.FieldType) 5 1573 19920 S μ [.ref (S.1 15 14 0)] (c_Post S μ (fun a b c => ((a = 15 ∧ 14 ≤ b ∧ b ≤ 15 ∧ c = 0) ∨ (3 ≤ a ∧ a < 15 ∧ PN0 b c)))) := by
  refine ch_enter rfl rfl ?_
  intro X hl0 h hG hR hnm
  have h : ch_H X E RX1 cX1_init 2 := h
  have hb : ∀ {S' : ch_S}, S'.2.1 15 14 0 → ch_bs X E S' := fun z => Or.inr ⟨_, _, _, z⟩
  show ch_W X E 2 S μ 0 0 0 [(0, .ref (S.1 15 14 0))] []
  have np := NP_00 (μ := μ) hv
  obtain ⟨b0, e_b0⟩ : ∃ z, S.1 15 14 0 = z := ⟨_, rfl⟩
  rw [e_b0]
  have z_b0 := hz
  refine ca_aload_nr h dX1_init_0 rfl ?_
  refine ca_objI h hG kw_313 kw_32 kw_33 rfl rfl dX1_init_1 ?_
  refine ca_aload_nr h dX1_init_4 rfl ?_
  refine ca_bipush h dX1_init_5 bk_12 ?_
  refine ca_newQ h 15 15 0 hG (hb (NP_v np (by omega))) rfl (t := 4) (by decide) rfl kw_314 (List.mem_of_getElem? (i := 3) rfl) (by decide) (n := 12) (by decide) rfl ⟨by omega, by omega⟩ dX1_init_7 ?_
  intro q15
  obtain ⟨np', mv⟩ := NP_newA (q := q15) np (hf 15 15 0 (by (first | omega | (unfold PN0; omega) | simp)) (by omega)) (by show ¬ ((15) = 15 ∧ (15) = 14 ∧ (0) = 0); omega) rfl (by intro j; show ¬ ((15) = (15) + 1); omega)
  replace e_b0 := mv 15 14 0 _ (NP_v np ⟨rfl, rfl, rfl⟩) e_b0
  have e_q15 := s_ad_s S 15 15 0 q15
  clear np mv
  generalize s_ad S 15 15 0 q15 = S1 at np' e_b0 e_q15 ⊢
  replace z_b0 := (ch_z_n (μ := μ) (k := 15) (kd := 15) (i := 0) (show ¬ (15 = 15 ∧ 14 = 15 ∧ 0 = 0) by omega)).trans z_b0
  generalize hz_ : ch_z μ 15 15 0 = μ1 at np' z_b0 ⊢
  have z_q15 : μ1 15 15 0 = fun _ => 0 := by rw [← hz_]; exact ch_z_0 _ _ _ _
  clear hz_
  have np := np'
  clear np'
  refine ca_putR (ci := 1) (j := 2) (ty := tyX1 2) h rfl rfl li_X1 tyX1 tyX1_ok nmX1 rfl (NP_v np (Or.inl ⟨rfl, rfl, rfl⟩)) e_b0 (by decide) rfl kw_320 rfl hnm rfl (tyX1_ok 2 (by decide)) rfl rfl dX1_init_10 ?_
  replace np := NP_rfA np (j := 2) (Or.inl ⟨rfl, rfl, rfl⟩) (r := (15, 15, 0)) rfl (NP_v np (Or.inr ⟨rfl, rfl, rfl⟩)) e_q15
  replace e_b0 : (s_rf S1 15 14 0 2 q15).1 15 14 0 = b0 := e_b0
  replace e_q15 : (s_rf S1 15 14 0 2 q15).1 15 15 0 = q15 := e_q15
  generalize s_rf S1 15 14 0 2 q15 = S2 at np e_b0 e_q15 ⊢
  replace np := NP_memA (μ' := μ1) np (Or.inl ⟨rfl, rfl, rfl⟩) (fun a b c _ => rfl) (z_b0.trans i_z14)
  refine ca_iconst h dX1_init_13 ik_0 ?_
  refine ca_istore_n h dX1_init_14 rfl ?_
  have loop_15 : ∀ (jj n : Nat), n + jj = 12 → ∀ (x : Int32) (ex : x = nI n) (S9 : ch_S) (μ9 : ch_M) (np : NP S S9 μ μ9 (fun a b c => ((a = 15 ∧ 14 ≤ b ∧ b ≤ 15 ∧ c = 0) ∨ (3 ≤ a ∧ PN0 b c ∧ a - 3 < n))) (fun a b c => ((a = 15 ∧ 14 ≤ b ∧ b ≤ 15 ∧ c = 0) ∨ (3 ≤ a ∧ PN0 b c ∧ a - 3 < n))) (fun a b c j => (((a = 15 ∧ b = 14 ∧ c = 0) ∨ (a = 15 ∧ b = 15 ∧ c = 0 ∧ j < n)) ∨ (3 ≤ a ∧ PN0 b c ∧ a - 3 < n)))) (e_b0 : S9.1 15 14 0 = b0), ch_W X E 2 S9 μ9 (1 + 131 * n) (12 + 1659 * n) 15 [(0, .ref b0), (1, .int x)] [] := by
    intro jj
    induction jj with
    | zero =>
      intro n hn x ex S9 μ9 np e_b0
      have hn : n = 12 := by omega
      subst hn ex
      refine ca_iload_n h dX1_init_15 rfl ?_
      refine ca_aload_nr h dX1_init_16 rfl ?_
      refine ca_tR e_b0 ?_
      refine gr_X1_11 h (NP_v np (Or.inl ⟨rfl, by decide, by decide, rfl⟩)) (np.2.2.2.2 15 14 0 2 (15, 15, 0) (Or.inl ⟨rfl, by decide, by decide, rfl⟩) (by show ((((15) = 15 ∧ (14) = 14 ∧ (0) = 0) ∨ ((15) = 15 ∧ (14) = 15 ∧ (0) = 0 ∧ (2) < 12)) ∨ (3 ≤ (15) ∧ PN0 (14) (0) ∧ (15) - 3 < 12)); omega) rfl).2 dX1_init_17 ?_
      show ch_W _ _ _ _ _ _ _ _ _ (.ref (S9.1 15 15 0) :: _)
      obtain ⟨q15, e_q15⟩ : ∃ z, S9.1 15 15 0 = z := ⟨_, rfl⟩
      rw [e_q15]
      refine ca_tR e_q15 ?_
      refine ca_alenq h rfl (by decide) (NP_v np (Or.inl ⟨rfl, by decide, by decide, rfl⟩)) (v := 12) rfl dX1_init_20 ?_
      refine ca_icmp_ge (tgt := 43) h dX1_init_21 (by decide) (fun c_21 => ?_) (fun c_21 => ?_)
      rotate_left
      · exact absurd c_21 (by decide)
      refine ca_room (kc' := 1573) (ks' := 19920) (by omega) (by omega) ?_
      refine ca_vreturn h hR dX1_init_43 ⟨rfl, ?_⟩
      exact NP_w np (by intro a b c; exact ⟨fun z => z.imp id (fun y => ⟨y.1, y.2.2, by omega⟩), fun z => z.imp id (fun y => ⟨y.1, by omega, y.2.1⟩)⟩) (fun a b c d _ => d) (by intro a b c j r d z e; rcases d with d | d; (· have ej := ch_rt_j e; rcases (show b = 14 ∨ b = 15 by omega) with rfl | rfl; (· exact Or.inl (Or.inl ⟨d.1, rfl, d.2.2.2⟩)); (· exact Or.inl (Or.inr ⟨d.1, rfl, d.2.2.2, by omega⟩))); (· exact Or.inr d))
    | succ jj ih_15 =>
      intro n hn x ex S9 μ9 np e_b0
      have hn1 : n < 12 := by omega
      subst ex
      refine ca_iload_n h dX1_init_15 rfl ?_
      refine ca_aload_nr h dX1_init_16 rfl ?_
      refine ca_tR e_b0 ?_
      refine gr_X1_11 h (NP_v np (Or.inl ⟨rfl, by decide, by decide, rfl⟩)) (np.2.2.2.2 15 14 0 2 (15, 15, 0) (Or.inl ⟨rfl, by decide, by decide, rfl⟩) (by show ((((15) = 15 ∧ (14) = 14 ∧ (0) = 0) ∨ ((15) = 15 ∧ (14) = 15 ∧ (0) = 0 ∧ (2) < n)) ∨ (3 ≤ (15) ∧ PN0 (14) (0) ∧ (15) - 3 < n)); omega) rfl).2 dX1_init_17 ?_
      show ch_W _ _ _ _ _ _ _ _ _ (.ref (S9.1 15 15 0) :: _)
      obtain ⟨q15, e_q15⟩ : ∃ z, S9.1 15 15 0 = z := ⟨_, rfl⟩
      rw [e_q15]
      refine ca_tR e_q15 ?_
      refine ca_alenq h rfl (by decide) (NP_v np (Or.inl ⟨rfl, by decide, by decide, rfl⟩)) (v := 12) rfl dX1_init_20 ?_
      refine ca_icmp_ge (tgt := 43) h dX1_init_21 (by decide) (fun c_21 => ?_) (fun c_21 => ?_)
      · exact absurd (nI_lt hn1 (by decide)) c_21
      refine ca_aload_nr h dX1_init_24 rfl ?_
      refine ca_tR e_b0 ?_
      refine gr_X1_11 h (NP_v np (Or.inl ⟨rfl, by decide, by decide, rfl⟩)) (np.2.2.2.2 15 14 0 2 (15, 15, 0) (Or.inl ⟨rfl, by decide, by decide, rfl⟩) (by show ((((15) = 15 ∧ (14) = 14 ∧ (0) = 0) ∨ ((15) = 15 ∧ (14) = 15 ∧ (0) = 0 ∧ (2) < n)) ∨ (3 ≤ (15) ∧ PN0 (14) (0) ∧ (15) - 3 < n)); omega) rfl).2 dX1_init_25 ?_
      show ch_W _ _ _ _ _ _ _ _ _ (.ref (S9.1 15 15 0) :: _)
      rw [e_q15]
      refine ca_iload_n h dX1_init_28 rfl ?_
      refine ca_newO h (ci := 3) (3 + n) 0 0 hG (hb (NP_v np (by omega))) rfl rfl li_X3 tyX3 tyX3_ok dvX3 rfl kw_314 kw_69 kw_3 ⟨by omega, by omega⟩ dX1_init_29 ?_
      intro nn
      obtain ⟨np', mv⟩ := NP_newO (q := nn) np (hf (3 + n) 0 0 (by (first | omega | (unfold PN0; omega) | simp)) (by omega)) (by show ¬ (((3 + n) = 15 ∧ 14 ≤ (0) ∧ (0) ≤ 15 ∧ (0) = 0) ∨ (3 ≤ (3 + n) ∧ PN0 (0) (0) ∧ (3 + n) - 3 < n)); omega) (by show ¬ (((3 + n) = 15 ∧ 14 ≤ (0) ∧ (0) ≤ 15 ∧ (0) = 0) ∨ (3 ≤ (3 + n) ∧ PN0 (0) (0) ∧ (3 + n) - 3 < n)); omega) (by intro j; show ¬ ((((3 + n) = 15 ∧ (0) = 14 ∧ (0) = 0) ∨ ((3 + n) = 15 ∧ (0) = 15 ∧ (0) = 0 ∧ (j) < n)) ∨ (3 ≤ (3 + n) ∧ PN0 (0) (0) ∧ (3 + n) - 3 < n)); omega)
      replace e_b0 := mv 15 14 0 _ (NP_v np (Or.inl ⟨rfl, by decide, by decide, rfl⟩)) e_b0
      replace e_q15 := mv 15 15 0 _ (NP_v np (Or.inl ⟨rfl, by decide, by decide, rfl⟩)) e_q15
      have e_nn := s_ad_s S9 (3 + n) 0 0 nn
      clear np mv
      generalize s_ad S9 (3 + n) 0 0 nn = S3 at np' e_b0 e_q15 e_nn ⊢
      generalize hz_ : ch_z μ9 (3 + n) 0 0 = μ3 at np'  ⊢
      have z_nn : μ3 (3 + n) 0 0 = fun _ => 0 := by rw [← hz_]; exact ch_z_0 _ _ _ _
      clear hz_
      have np := np'
      clear np'
      refine ca_dup h dX1_init_32 rfl ?_
      refine ca_tR e_nn ?_
      refine ca_ctI h hG kw_316 kw_71 kw_3 kw_72 ⟨by decide, by decide, by decide +kernel⟩ rfl (c_X3_init  (NP_v np (Or.inr ⟨rfl, rfl, rfl⟩)) (by exact z_nn) (fun a b c z z' => NP_nv np (hf a b c (Or.inr ⟨by omega, by omega, z.2⟩) (by omega)) (fun y => by omega))) rfl rfl ⟨by omega, by omega⟩ rfl dX1_init_33 ?_
      intro S4 μ4 hp
      obtain ⟨np', mv⟩ := NP_callA np hp
      replace e_b0 := mv 15 14 0 _ (NP_v np (Or.inl (Or.inl ⟨rfl, by decide, by decide, rfl⟩))) e_b0
      replace e_q15 := mv 15 15 0 _ (NP_v np (Or.inl (Or.inl ⟨rfl, by decide, by decide, rfl⟩))) e_q15
      replace e_nn := mv (3 + n) 0 0 _ (NP_v np (Or.inr ⟨rfl, rfl, rfl⟩)) e_nn
      clear np mv hp
      have np := np'
      clear np'
      refine ca_asto h (t := 4) (n := 12) (ci := 3) rfl (by decide) rfl (NP_v np (Or.inl (Or.inl (Or.inl ⟨rfl, by decide, by decide, rfl⟩)))) (NP_v np (Or.inl (Or.inr ⟨rfl, rfl, rfl⟩))) rfl rfl e_q15 e_nn (vp_in_nI hn1 (by decide)) dX1_init_36 ?_
      rw [nI_clamp (show n < 2 ^ 31 by omega)]
      replace np := NP_rfA np (j := n) (Or.inl (Or.inl (Or.inl ⟨rfl, by decide, by decide, rfl⟩))) (r := (3 + n, 0, 0)) (show ch_rt 15 15 0 n = some (3 + n, 0, 0) from if_pos hn1) (NP_v np (Or.inl (Or.inr ⟨rfl, rfl, rfl⟩))) e_nn
      replace e_b0 : (s_rf S4 15 15 0 n nn).1 15 14 0 = b0 := e_b0
      replace e_q15 : (s_rf S4 15 15 0 n nn).1 15 15 0 = q15 := e_q15
      replace e_nn : (s_rf S4 15 15 0 n nn).1 (3 + n) 0 0 = nn := e_nn
      generalize s_rf S4 15 15 0 n nn = S5 at np e_b0 e_q15 e_nn ⊢
      refine ca_iinc h dX1_init_37 rfl ik_1 rfl ?_
      refine ca_goto (tgt := 15) h dX1_init_40 (by decide) ?_
      replace np := NP_w (D' := (fun a b c => ((a = 15 ∧ 14 ≤ b ∧ b ≤ 15 ∧ c = 0) ∨ (3 ≤ a ∧ PN0 b c ∧ a - 3 < n + 1)))) (Z' := (fun a b c => ((a = 15 ∧ 14 ≤ b ∧ b ≤ 15 ∧ c = 0) ∨ (3 ≤ a ∧ PN0 b c ∧ a - 3 < n + 1)))) (R' := (fun a b c j => (((a = 15 ∧ b = 14 ∧ c = 0) ∨ (a = 15 ∧ b = 15 ∧ c = 0 ∧ j < n + 1)) ∨ (3 ≤ a ∧ PN0 b c ∧ a - 3 < n + 1)))) np (by intro a b c; constructor; (· (intro z; rcases z with (z | z); (· (exact (Or.inl (Or.inl (Or.inl z))))); (· (obtain ⟨z1, hp, z2⟩ := z; rcases (show a - 3 < n ∨ a = 3 + n by omega) with y | y; (· exact (Or.inl (Or.inl (Or.inr ⟨z1, hp, y⟩)))); (· exact (Or.inr ⟨y, hp⟩)))))); (· (intro z; rcases z with (((z | z) | z) | z); (· (exact (Or.inl z))); (· (exact (Or.inr ⟨z.1, z.2.1, Nat.lt_succ_of_lt z.2.2⟩))); (· (obtain ⟨rfl, rfl, rfl⟩ := z; exact (Or.inr ⟨by omega, pn00, by omega⟩))); (· (exact (Or.inr ⟨by omega, z.2, by omega⟩)))))) (by intro a b c _ z; rcases z with (z | z); (· (exact (Or.inl (Or.inl z)))); (· (obtain ⟨z1, hp, z2⟩ := z; rcases (show a - 3 < n ∨ a = 3 + n by omega) with y | y; (· exact (Or.inl (Or.inr ⟨z1, hp, y⟩))); (· exact (Or.inr ⟨y, hp⟩))))) (by intro a b c j r _ z e; rcases z with ((z | z) | z); (· (exact (Or.inl (Or.inl (Or.inl (Or.inl z)))))); (· (rcases (show (a = 15 ∧ b = 15 ∧ c = 0 ∧ j < n) ∨ (3 ≤ a ∧ PN0 b c ∧ a - 3 < n) ∨ (a = 3 + n ∧ PN0 b c) ∨ (a = 15 ∧ b = 15 ∧ c = 0 ∧ j = n) by first | omega | (have ej := ch_rt_j e; omega)) with z | z | z | z; (· exact (Or.inl (Or.inl (Or.inl (Or.inr z))))); (· exact (Or.inl (Or.inl (Or.inr z)))); (· exact (Or.inl (Or.inr z))); (· exact (Or.inr z)))); (· (obtain ⟨z1, hp, z2⟩ := z; rcases (show a - 3 < n ∨ a = 3 + n by first | omega | (have ej := ch_rt_j e; omega)) with y | y; (· exact (Or.inl (Or.inl (Or.inr ⟨z1, hp, y⟩)))); (· exact (Or.inl (Or.inr ⟨y, hp⟩))))))
      refine ca_room (kc' := 1 + 131 * (n + 1)) (ks' := 12 + 1659 * (n + 1)) (by omega) (by omega) ?_
      refine ca_pick [1, 0] rfl ?_
      exact ih_15 (n + 1) (by omega) _ (nI_1 n) _ _ np e_b0
  replace np := NP_w (D' := (fun a b c => ((a = 15 ∧ 14 ≤ b ∧ b ≤ 15 ∧ c = 0) ∨ (3 ≤ a ∧ PN0 b c ∧ a - 3 < 0)))) (Z' := (fun a b c => ((a = 15 ∧ 14 ≤ b ∧ b ≤ 15 ∧ c = 0) ∨ (3 ≤ a ∧ PN0 b c ∧ a - 3 < 0)))) (R' := (fun a b c j => (((a = 15 ∧ b = 14 ∧ c = 0) ∨ (a = 15 ∧ b = 15 ∧ c = 0 ∧ j < 0)) ∨ (3 ≤ a ∧ PN0 b c ∧ a - 3 < 0)))) np (by intro a b c; constructor; (· (intro z; rcases z with (z | z); (· (rcases (show (a = 15 ∧ b = 14 ∧ c = 0) ∨ (a = 15 ∧ b = 15 ∧ c = 0) by omega) with z | z; (· exact (Or.inl z)); (· exact (Or.inr z)))); (· (exfalso; omega)))); (· (intro z; rcases z with (z | z); (· (replace z : (a = 15 ∧ 14 ≤ b ∧ b ≤ 15 ∧ c = 0) := (by omega); exact (Or.inl z))); (· (replace z : (a = 15 ∧ 14 ≤ b ∧ b ≤ 15 ∧ c = 0) := (by omega); exact (Or.inl z)))))) (by intro a b c _ z; rcases z with (z | z); (· (rcases (show (a = 15 ∧ b = 15 ∧ c = 0) ∨ (a = 15 ∧ b = 14 ∧ c = 0) by omega) with z | z; (· exact (Or.inl (Or.inr z))); (· exact (Or.inr z)))); (· (exfalso; omega))) (by intro a b c j r _ z e; rcases z with ((z | z) | z); (· (replace z : (a = 15 ∧ b = 14 ∧ c = 0 ∧ j = 2) := (by first | omega | (have ej := ch_rt_j e; omega)); exact (Or.inr z))); (· (exfalso; omega)); (· (exfalso; omega)))
  refine ca_room (kc' := 1 + 131 * 0) (ks' := 12 + 1659 * 0) (by omega) (by omega) ?_
  refine ca_pick [1, 0] rfl ?_
  exact loop_15 12 0 rfl _ rfl _ _ np e_b0
