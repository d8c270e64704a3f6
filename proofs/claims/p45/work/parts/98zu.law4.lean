set_option maxHeartbeats 400000 in
theorem c_lawK {X : ch_X} {E : ch_E} {n u j : Nat} {bf : Int32} {wr : Nat → Int32} {w : Nat → Int32} {x : Int32} {m q : ch_N} {S S0 : ch_S} {μ μ0 : ch_M} (h : ch_H X E RL cL_law 12) (hG : ch_G X 10 687974 7037776) (kk : ∀ (S : ch_S) (μ : ch_M) (u j : Nat) (wr : Nat → Int32) (w : Nat → Int32), o_LX E (108 * (n + 1)) (n + 1) bf u j wr S μ → o_NW (μ 0) w S μ → ch_W X E 12 S μ (2100 + 1000 * (n + 1)) (27000 + 2500 * (n + 1)) 112 [(0, .ref (ch_sb E)), (1, .ref (S.1 15 11 0)), (3, .ref (S.1 16 22 0)), (5, .int bf), (6, .ref (S.1 19 52 0)), (7, .int (nI u)), (8, .int (nI (n + 1)))] []) (hn24 : n < 24) (hu : u ≤ 12) (hY : o_LY E (108 * (n + 1)) (n + 1) bf (r_pu u) ((j + 1) % 12) (o_sh wr u x) S μ) (hwr : ∀ i, i < u → μ 19 52 0 i = wr i) (hN : o_NW m w S μ) (hKG : k_G m) (hQ : o_Q m) (hck : ¬ 100000 < m 0 0 3 + 1) (he : μ 0 = (k_tick (m, q)).1) : ch_W X E 12 S μ (2100 + 1000 * n + 11) (27000 + 2500 * n + 96) 163 [(0, .ref (ch_sb E)), (1, .ref (S.1 15 11 0)), (3, .ref (S.1 16 22 0)), (5, .int bf), (6, .ref (S.1 19 52 0)), (7, .int (nI u)), (8, .int (nI n)), (10, .int x)] [] := by
  refine ca_aload_nr h dL_law_163 rfl ?_
  obtain ⟨Sb, rfl⟩ : ∃ z, z = S := ⟨_, rfl⟩
  refine oa_N h hG (host := "CellHandoverLaw") (List.mem_of_getElem? (i := 8) rfl) kw_727 ks_21 kw_18 kw_729 (n := 0) ⟨by decide, by decide, by decide +kernel⟩ (c_X13_step hN hKG hQ (q := q) hck) (ci := 13) rfl rfl rfl (hN.st.1 _ _ _ ⟨rfl, rfl⟩) rfl rfl rfl rfl ⟨by omega, by omega⟩ rfl dL_law_164 ?_
  intro v S μ2 hp
  obtain ⟨rfl, hfr, w2, hN2⟩ := hp
  have f15 := hfr.1 15 (by decide) (by decide) (by decide) (by decide) (by decide)
  have f19 := hfr.1 19 (by decide) (by decide) (by decide) (by decide) (by decide)
  rw [← f15.1, ← f19.1, ← hfr.2.1.1]
  have hk : ∀ k, k < 16 → μ2 k = μ k := fun k hk => (hfr.1 k (by omega) (by omega) (by omega) (by omega) (by omega)).2.2.2
  have hs2 : ch_Std E S := std_fr hY.1 (fun k hk => ⟨(hfr.1 k (by omega) (by omega) (by omega) (by omega) (by omega)).1, (hfr.1 k (by omega) (by omega) (by omega) (by omega) (by omega)).2.1, (hfr.1 k (by omega) (by omega) (by omega) (by omega) (by omega)).2.2.1⟩)
  have e0 : μ2 0 = (k_tick (m, q)).1 := (hk 0 (by decide)).trans he
  rw [← e0] at hN2
  have hY2 : o_LY E (108 * (n + 1)) (n + 1) bf (r_pu u) ((j + 1) % 12) (o_sh wr u x) S μ2 := LY_same hY hk (by rw [hN2.cells, e0, ← he, hY.2.2.1, hY.rg.1.2.2]) hs2 ⟨hN2.st.1 _ _ _ ⟨rfl, rfl⟩, by rw [f19.2.1]; exact hY.2.1.2⟩ (Nat.le_refl _) (Nat.le_refl _)
  have hwr2 : ∀ i, i < u → μ2 19 52 0 i = wr i := fun i hi => by rw [f19.2.2.2]; exact hwr i hi
  refine ca_goto (tgt := 211) h dL_law_167 (by decide) ?_
  refine ca_widen (k := (2100 + 1000 * (n + 1))) (n := (27000 + 2500 * (n + 1))) (by omega) (by omega) ?_
  exact ca_pick [0, 1, 2, 3, 4, 5, 6, 7] rfl (c_lawW h hG kk hn24 hY2 hwr2 hN2 hu)
set_option maxHeartbeats 400000 in
theorem c_lawA1 {X : ch_X} {E : ch_E} {n u j : Nat} {bf : Int32} {wr : Nat → Int32} {w : Nat → Int32} {x : Int32} {S S0 : ch_S} {μ μ0 : ch_M} (h : ch_H X E RL cL_law 12) (hG : ch_G X 10 687974 7037776) (kk : ∀ (S : ch_S) (μ : ch_M) (u j : Nat) (wr : Nat → Int32) (w : Nat → Int32), o_LX E (108 * (n + 1)) (n + 1) bf u j wr S μ → o_NW (μ 0) w S μ → ch_W X E 12 S μ (2100 + 1000 * (n + 1)) (27000 + 2500 * (n + 1)) 112 [(0, .ref (ch_sb E)), (1, .ref (S.1 15 11 0)), (3, .ref (S.1 16 22 0)), (5, .int bf), (6, .ref (S.1 19 52 0)), (7, .int (nI u)), (8, .int (nI (n + 1)))] []) (hn24 : n < 24) (hu : u ≤ 12) (hY : o_LY E (108 * (n + 1)) (n + 1) bf (r_pu u) ((j + 1) % 12) (o_sh wr u x) S μ) (hwr : ∀ i, i < u → μ 19 52 0 i = wr i) (hN : o_NW (μ 0) w S μ) : ch_W X E 12 S μ (2100 + 1000 * n + 11) (27000 + 2500 * n + 29) 179 [(0, .ref (ch_sb E)), (1, .ref (S.1 15 11 0)), (3, .ref (S.1 16 22 0)), (5, .int bf), (6, .ref (S.1 19 52 0)), (7, .int (nI u)), (8, .int (nI n)), (10, .int x)] [.int 1] := by
  refine ca_istore h dL_law_179 rfl ?_
  refine ca_iload h dL_law_181 rfl ?_
  refine ca_if_lt (tgt := 201) h dL_law_183 (by decide) (fun c_183 => ?_) (fun c_183 => ?_)
  · exact absurd c_183 (by decide)
  ·
    refine ca_iload h dL_law_186 rfl ?_
    refine ca_if_ne (tgt := 203) h dL_law_188 (by decide) (fun c_188 => ?_) (fun c_188 => ?_)
    ·
      refine ca_iload h dL_law_203 rfl ?_
      refine ca_if_ne (tgt := 211) h dL_law_205 (by decide) (fun c_205 => ?_) (fun c_205 => ?_)
      ·
        refine ca_widen (k := (2100 + 1000 * (n + 1))) (n := (27000 + 2500 * (n + 1))) (by omega) (by omega) ?_
        exact ca_pick [1, 2, 3, 4, 5, 6, 7, 8] rfl (c_lawW h hG kk hn24 hY hwr hN hu)
      · exact absurd (show (1 : Int32) = 0 from c_205) (by decide)
    · exact absurd (show (1 : Int32) = 0 from c_188) (by decide)
set_option maxHeartbeats 400000 in
theorem c_lawA0 {X : ch_X} {E : ch_E} {n u j : Nat} {bf : Int32} {wr : Nat → Int32} {w : Nat → Int32} {x : Int32} {S S0 : ch_S} {μ μ0 : ch_M} (h : ch_H X E RL cL_law 12) (hG : ch_G X 10 687974 7037776) (kk : ∀ (S : ch_S) (μ : ch_M) (u j : Nat) (wr : Nat → Int32) (w : Nat → Int32), o_LX E (108 * (n + 1)) (n + 1) bf u j wr S μ → o_NW (μ 0) w S μ → ch_W X E 12 S μ (2100 + 1000 * (n + 1)) (27000 + 2500 * (n + 1)) 112 [(0, .ref (ch_sb E)), (1, .ref (S.1 15 11 0)), (3, .ref (S.1 16 22 0)), (5, .int bf), (6, .ref (S.1 19 52 0)), (7, .int (nI u)), (8, .int (nI (n + 1)))] []) (hn24 : n < 24) (hX : o_LX E (108 * (n + 1)) (n + 1) bf u j wr S μ) (hN : o_NW (μ 0) w S μ) (hx : x = a_all (μ 0)) : ch_W X E 12 S μ (2100 + 1000 * n + 11) (27000 + 2500 * n + 29) 179 [(0, .ref (ch_sb E)), (1, .ref (S.1 15 11 0)), (3, .ref (S.1 16 22 0)), (5, .int bf), (6, .ref (S.1 19 52 0)), (7, .int (nI u)), (8, .int (nI n)), (10, .int x)] [.int 0] := by
  have hs := hX.1.1
  have hZ := hX.1.z
  refine ca_istore h dL_law_179 rfl ?_
  refine ca_iload h dL_law_181 rfl ?_
  refine ca_if_lt (tgt := 201) h dL_law_183 (by decide) (fun c_183 => ?_) (fun c_183 => ?_)
  · exact absurd c_183 (by decide)
  ·
    refine ca_iload h dL_law_186 rfl ?_
    refine ca_if_ne (tgt := 203) h dL_law_188 (by decide) (fun c_188 => ?_) (fun c_188 => ?_)
    · exact absurd rfl c_188
    ·
      refine ca_aload_nr h dL_law_191 rfl ?_
      refine ca_aload_nr h dL_law_192 rfl ?_
      refine oa_s h hG ms_L_248 (c_L_all hs hX.1.2.1.1 hZ.wf hZ.mc hZ.cc) rfl rfl rfl rfl ⟨by omega, by omega⟩ rfl dL_law_193 ?_
      rw [← hx]
      refine ca_iload h dL_law_196 rfl ?_
      refine ca_icmp_eq (tgt := 203) h dL_law_198 (by decide) (fun c_198 => ?_) (fun c_198 => ?_)
      ·
        refine ca_iload h dL_law_203 rfl ?_
        refine ca_if_ne (tgt := 211) h dL_law_205 (by decide) (fun c_205 => ?_) (fun c_205 => ?_)
        · exact absurd rfl c_205
        ·
          refine ca_goto (tgt := 278) h dL_law_208 (by decide) ?_
          refine ca_iinc h dL_law_278 rfl ik_1 rfl ?_
          rw [show nI n + 1 = nI (n + 1) from nI_1 _]
          refine ca_goto (tgt := 112) h dL_law_281 (by decide) ?_
          refine ca_widen (k := (2100 + 1000 * (n + 1))) (n := (27000 + 2500 * (n + 1))) (by omega) (by omega) ?_
          exact ca_pick [2, 3, 4, 5, 6, 7, 0] rfl (kk S μ u j wr w hX hN)
      · exact absurd rfl c_198
