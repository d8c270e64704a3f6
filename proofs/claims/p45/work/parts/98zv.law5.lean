set_option maxHeartbeats 600000 in
theorem c_lawD {X : ch_X} {E : ch_E} {j : Nat} {bf : Int32} {wr : Nat → Int32} {w : Nat → Int32} {S S0 : ch_S} {μ μ0 : ch_M} (h : ch_H X E RL cL_law 12) (hG : ch_G X 10 687974 7037776) (kend : ∀ (S : ch_S) (μ : ch_M) (L : List (Nat × Value)), ch_W X E 12 S μ 687974 7037776 486 L [.int 1]) (hX0 : o_LX E 0 0 bf 0 j wr S μ) (hN0 : o_NW (μ 0) w S μ) : ch_W X E 12 S μ 2100 27000 112 [(0, .ref (ch_sb E)), (1, .ref (S.1 15 11 0)), (3, .ref (S.1 16 22 0)), (5, .int bf), (6, .ref (S.1 19 52 0)), (7, .int (nI 0)), (8, .int (nI 0))] [] := by
  have hC5 := a_C5 E
  obtain ⟨Sa, rfl⟩ : ∃ z, z = S := ⟨_, rfl⟩
  have loop_112 : ∀ (jj n : Nat), n + jj = 24 → ∀ (S : ch_S) (μi : ch_M) (u : Nat) (j : Nat) (wr : Nat → Int32) (w : Nat → Int32) (hX : o_LX E (108 * n) n bf u j wr S μi) (hN : o_NW (μi 0) w S μi), ch_W X E 12 S μi (2100 + 1000 * n) (27000 + 2500 * n) 112 [(0, .ref (ch_sb E)), (1, .ref (S.1 15 11 0)), (3, .ref (S.1 16 22 0)), (5, .int bf), (6, .ref (S.1 19 52 0)), (7, .int (nI u)), (8, .int (nI n))] [] := by
    intro jj
    induction jj with
    | zero =>
      intro n hn S μi u j wr w hX hN
      have hn : n = 24 := by omega
      have h24 : n = 24 := by omega
      subst h24
      refine ca_iload h dL_law_112 rfl ?_
      refine ca_bipush h dL_law_114 bk_24 ?_
      refine ca_icmp_ge (tgt := 284) h dL_law_116 (by decide) (fun c_116 => ?_) (fun c_116 => ?_)
      ·
        refine ca_widen (k := 687974) (n := 7037776) (by omega) (by omega) ?_
        exact ca_pick [0, 1, 2, 3, 4, 5] rfl (c_lawC (S0 := S) (μ0 := μi) h hG kend hX (by omega) (by omega))
      · exact absurd (show nI 24 < 24 from c_116) (by decide)
    | succ jj ih_112 =>
      intro n hn S μi u j wr w hX hN
      have hn1 : n < 24 := by omega
      have hs := hX.1.1
      have hZ := hX.1.z
      have hH := hX.1.2.2.2.2.2.1
      have hj12 := hH.2.1
      obtain ⟨x0, hg0, hJ0, ⟨t, ht, htn⟩, -⟩ := hX.1.2.2.2.2.1
      have kk : ∀ (S : ch_S) (μ : ch_M) (u j : Nat) (wr : Nat → Int32) (w : Nat → Int32), o_LX E (108 * (n + 1)) (n + 1) bf u j wr S μ → o_NW (μ 0) w S μ → ch_W X E 12 S μ (2100 + 1000 * (n + 1)) (27000 + 2500 * (n + 1)) 112 _ [] := fun S μ u j wr w a b => ih_112 (n + 1) (by omega) S μ u j wr w a b
      refine ca_iload h dL_law_112 rfl ?_
      refine ca_bipush h dL_law_114 bk_24 ?_
      refine ca_icmp_ge (tgt := 284) h dL_law_116 (by decide) (fun c_116 => ?_) (fun c_116 => ?_)
      · exact absurd (nI_lt (b := 24) hn1 (by decide)) c_116
      ·
        refine ca_aload_nr h dL_law_119 rfl ?_
        refine ca_bipush h dL_law_120 bk_13 ?_
        refine ca_iload h dL_law_122 rfl ?_
        refine ca_iadd h dL_law_124 ?_
        refine ca_top (y := nI (13 + n)) (show nI 13 + nI n = _ from nI_add ..) ?_
        refine oa_s h hG ms_L_23 (c_L_cell (k := 13 + n) (by omega)) rfl rfl rfl rfl ⟨by omega, by omega⟩ rfl dL_law_125 ?_
        refine ca_istore h dL_law_128 rfl ?_
        refine ca_aload_nr h dL_law_130 rfl ?_
        refine ca_aload_nr h dL_law_131 rfl ?_
        refine oa_s h hG ms_L_248 (c_L_all hs hX.1.2.1.1 hZ.wf hZ.mc hZ.cc) rfl rfl rfl rfl ⟨by omega, by omega⟩ rfl dL_law_132 ?_
        refine ca_istore h dL_law_135 rfl ?_
        refine ca_iload h dL_law_137 rfl ?_
        refine ca_bipush h dL_law_139 bk_6 ?_
        refine ca_icmp_le (tgt := 170) h dL_law_141 (by decide) (fun c_141 => ?_) (fun c_141 => ?_)
        ·
          refine ca_aload_nr h dL_law_170 rfl ?_
          refine ca_aload_nr h dL_law_171 rfl ?_
          refine ca_iload h dL_law_172 rfl ?_
          refine ca_iconst h dL_law_174 ik_1 ?_
          refine ca_ishr h dL_law_175 ?_
          obtain ⟨Sb, rfl⟩ : ∃ z, z = S := ⟨_, rfl⟩
          refine oa_S h hG ms_L_286 (c_L_act (B := 108 * n) (j := j) hs rfl hN hJ0 (by omega) hH.2.1 hH.2.2.2.1 (by rw [hg0.2.2]; omega)) rfl rfl rfl rfl ⟨by omega, by omega⟩ rfl dL_law_176 ?_
          intro v S μ1 hp
          obtain ⟨n', w1, hN1, hJ1, ⟨hcc1, hck1, hq1⟩, hfr, hres⟩ := hp
          have f16v : S.2.1 16 22 0 := hN1.st.1 _ _ _ ⟨rfl, rfl⟩
          rw [← (hfr 15 (by decide) (by decide) (by decide) (by decide) (by decide)).1, ← (hfr 19 (by decide) (by decide) (by decide) (by decide) (by decide)).1, ← hq1]
          have hs1 : ch_Std E S := std_fr hs (fun k hk => ⟨(hfr k (by omega) (by omega) (by omega) (by omega) (by omega)).1, (hfr k (by omega) (by omega) (by omega) (by omega) (by omega)).2.1, (hfr k (by omega) (by omega) (by omega) (by omega) (by omega)).2.2.1⟩)
          have f19 := hfr 19 (by decide) (by decide) (by decide) (by decide) (by decide)
          have hv52 : S.2.1 19 52 0 := by rw [f19.2.1]; exact hX.1.2.1.2
          have hwr1 : ∀ i, i < u → μ1 19 52 0 i = wr i := fun i hi => by rw [f19.2.2.2 (by decide)]; exact hX.2 i hi
          have hce : μ1 16 22 0 0 = nI (a_C E) := by rw [hN1.cells, hcc1, hg0.2.2]
          rcases hres with ⟨hv, hn', hk⟩ | ⟨hv, hk⟩
          · cases hv
            have hX1 : o_LX E (108 * (n + 1)) (n + 1) bf u j wr S μ1 := ⟨LY_same hX.1 hk (hce.trans hX.1.2.2.1.symm) hs1 ⟨f16v, hv52⟩ (by omega) (by omega), hwr1⟩
            have hN2 : o_NW (μ1 0) w1 S μ1 := by rw [hk 0 (by decide), ← hn']; exact hN1
            refine ca_widen (k := (2100 + 1000 * n + 11)) (n := (27000 + 2500 * n + 29)) (by omega) (by omega) ?_
            exact ca_pick [2, 3, 4, 5, 6, 7, 8, 0] rfl (c_lawA0 (S0 := S) (μ0 := μ1) h hG kk hn1 hX1 hN2 (by rw [hk 0 (by decide)]))
          · cases hv
            obtain ⟨r0, rk, rj, r15⟩ := rcm_at (μ := μi) hH.2.1 n'
            have e0 : μ1 0 = n' := (hk 0 (by decide)).trans r0
            have hY1 : o_LY E (108 * (n + 1)) (n + 1) bf (r_pu u) ((j + 1) % 12) (o_sh wr u (a_all (μi 0))) S μ1 :=
              LY_rec hX.1 (n' := n') e0 ((hk 2 (by decide)).trans (rk 2 (by decide) (by decide) (by omega))) ((hk 1 (by decide)).trans (rk 1 (by decide) (by decide) (by omega))) (fun i hi hij => (hk (3 + i) (by omega)).trans (rk (3 + i) (by omega) (by omega) (by omega))) ((hk (3 + j) (by have := hH.2.1; omega)).trans rj) (by rw [hk 15 (by decide), r15]) (by rw [hk 15 (by decide), r15]; exact rec_k (by decide)) hce hs1 ⟨f16v, hv52⟩ (by omega) (by omega) (NW_gd hN1 (hcc1.trans hg0.2.2)) (s_J_mono hJ1 (by omega)) ⟨t, hck1.trans ht, by omega⟩
            have hN2 : o_NW (μ1 0) w1 S μ1 := by rw [e0]; exact hN1
            refine ca_widen (k := (2100 + 1000 * n + 11)) (n := (27000 + 2500 * n + 29)) (by omega) (by omega) ?_
            exact ca_pick [2, 3, 4, 5, 6, 7, 8, 0] rfl (c_lawA1 (S0 := S) (μ0 := μ1) h hG kk hn1 hH.1 hY1 hwr1 hN2)
        ·
          refine ca_iload h dL_law_144 rfl ?_
          refine ca_iconst h dL_law_146 ik_3 ?_
          refine oa_s h hG ms_L_27 (c_L_most (by decide) (by decide)) rfl rfl rfl rfl ⟨by omega, by omega⟩ rfl dL_law_147 ?_
          refine ca_if_ne (tgt := 170) h dL_law_150 (by decide) (fun c_150 => ?_) (fun c_150 => ?_)
          ·
            refine ca_aload_nr h dL_law_170 rfl ?_
            refine ca_aload_nr h dL_law_171 rfl ?_
            refine ca_iload h dL_law_172 rfl ?_
            refine ca_iconst h dL_law_174 ik_1 ?_
            refine ca_ishr h dL_law_175 ?_
            obtain ⟨Sb, rfl⟩ : ∃ z, z = S := ⟨_, rfl⟩
            refine oa_S h hG ms_L_286 (c_L_act (B := 108 * n) (j := j) hs rfl hN hJ0 (by omega) hH.2.1 hH.2.2.2.1 (by rw [hg0.2.2]; omega)) rfl rfl rfl rfl ⟨by omega, by omega⟩ rfl dL_law_176 ?_
            intro v S μ1 hp
            obtain ⟨n', w1, hN1, hJ1, ⟨hcc1, hck1, hq1⟩, hfr, hres⟩ := hp
            have f16v : S.2.1 16 22 0 := hN1.st.1 _ _ _ ⟨rfl, rfl⟩
            rw [← (hfr 15 (by decide) (by decide) (by decide) (by decide) (by decide)).1, ← (hfr 19 (by decide) (by decide) (by decide) (by decide) (by decide)).1, ← hq1]
            have hs1 : ch_Std E S := std_fr hs (fun k hk => ⟨(hfr k (by omega) (by omega) (by omega) (by omega) (by omega)).1, (hfr k (by omega) (by omega) (by omega) (by omega) (by omega)).2.1, (hfr k (by omega) (by omega) (by omega) (by omega) (by omega)).2.2.1⟩)
            have f19 := hfr 19 (by decide) (by decide) (by decide) (by decide) (by decide)
            have hv52 : S.2.1 19 52 0 := by rw [f19.2.1]; exact hX.1.2.1.2
            have hwr1 : ∀ i, i < u → μ1 19 52 0 i = wr i := fun i hi => by rw [f19.2.2.2 (by decide)]; exact hX.2 i hi
            have hce : μ1 16 22 0 0 = nI (a_C E) := by rw [hN1.cells, hcc1, hg0.2.2]
            rcases hres with ⟨hv, hn', hk⟩ | ⟨hv, hk⟩
            · cases hv
              have hX1 : o_LX E (108 * (n + 1)) (n + 1) bf u j wr S μ1 := ⟨LY_same hX.1 hk (hce.trans hX.1.2.2.1.symm) hs1 ⟨f16v, hv52⟩ (by omega) (by omega), hwr1⟩
              have hN2 : o_NW (μ1 0) w1 S μ1 := by rw [hk 0 (by decide), ← hn']; exact hN1
              refine ca_widen (k := (2100 + 1000 * n + 11)) (n := (27000 + 2500 * n + 29)) (by omega) (by omega) ?_
              exact ca_pick [2, 3, 4, 5, 6, 7, 8, 0] rfl (c_lawA0 (S0 := S) (μ0 := μ1) h hG kk hn1 hX1 hN2 (by rw [hk 0 (by decide)]))
            · cases hv
              obtain ⟨r0, rk, rj, r15⟩ := rcm_at (μ := μi) hH.2.1 n'
              have e0 : μ1 0 = n' := (hk 0 (by decide)).trans r0
              have hY1 : o_LY E (108 * (n + 1)) (n + 1) bf (r_pu u) ((j + 1) % 12) (o_sh wr u (a_all (μi 0))) S μ1 :=
                LY_rec hX.1 (n' := n') e0 ((hk 2 (by decide)).trans (rk 2 (by decide) (by decide) (by omega))) ((hk 1 (by decide)).trans (rk 1 (by decide) (by decide) (by omega))) (fun i hi hij => (hk (3 + i) (by omega)).trans (rk (3 + i) (by omega) (by omega) (by omega))) ((hk (3 + j) (by have := hH.2.1; omega)).trans rj) (by rw [hk 15 (by decide), r15]) (by rw [hk 15 (by decide), r15]; exact rec_k (by decide)) hce hs1 ⟨f16v, hv52⟩ (by omega) (by omega) (NW_gd hN1 (hcc1.trans hg0.2.2)) (s_J_mono hJ1 (by omega)) ⟨t, hck1.trans ht, by omega⟩
              have hN2 : o_NW (μ1 0) w1 S μ1 := by rw [e0]; exact hN1
              refine ca_widen (k := (2100 + 1000 * n + 11)) (n := (27000 + 2500 * n + 29)) (by omega) (by omega) ?_
              exact ca_pick [2, 3, 4, 5, 6, 7, 8, 0] rfl (c_lawA1 (S0 := S) (μ0 := μ1) h hG kk hn1 hH.1 hY1 hwr1 hN2)
          ·
            refine ca_aload_nr h dL_law_153 rfl ?_
            refine ca_aload_nr h dL_law_154 rfl ?_
            obtain ⟨Sb, rfl⟩ : ∃ z, z = S := ⟨_, rfl⟩
            refine oa_S h hG ms_L_280 (c_L_isTick (B := 108 * n) (j := j) hs rfl hN hJ0.2.1 (by omega) hJ0.1 hJ0.2.2.2.1 (by rw [ht, nI_1]; exact fun z => absurd ((nI_ltI (a := 100000) (by decide) (by omega)).mp z) (by omega)) hH.2.1 hH.2.2.2.1) rfl rfl rfl rfl ⟨by omega, by omega⟩ rfl dL_law_155 ?_
            intro v S μ1 hp
            obtain ⟨rfl, hs20, hrun⟩ := hp
            rw [← (hs20 15 (by decide)).1, ← (hs20 16 (by decide)).1, ← (hs20 19 (by decide)).1]
            obtain ⟨r0, rk, rj, r15⟩ := srun_at (μ := μi) hH.2.1
            have hs1 : ch_Std E S := std_fr hs (fun k hk => hs20 k (by omega))
            have q16 : μ1 16 = μi 16 := (hrun 16 (by decide)).trans (rk 16 (by decide) (by decide) (by omega))
            have q18 : μ1 18 = μi 18 := (hrun 18 (by decide)).trans (rk 18 (by decide) (by decide) (by omega))
            have q19 : μ1 19 = μi 19 := (hrun 19 (by decide)).trans (rk 19 (by decide) (by decide) (by omega))
            have hY1 : o_LY E (108 * (n + 1)) (n + 1) bf (r_pu u) ((j + 1) % 12) (o_sh wr u (a_all (μi 0))) S μ1 := by
              refine LY_rec hX.1 (n' := (k_tick (μi 0, k_rec (μi 15))).1) ((hrun 0 (by decide)).trans r0) ((hrun 2 (by decide)).trans (rk 2 (by decide) (by decide) (by omega))) ((hrun 1 (by decide)).trans (rk 1 (by decide) (by decide) (by omega))) (fun i hi hij => (hrun (3 + i) (by omega)).trans (rk (3 + i) (by omega) (by omega) (by omega))) ((hrun (3 + j) (by have := hH.2.1; omega)).trans rj) (by rw [hrun 15 (by decide)]; exact r15 14 (by decide)) (by rw [hrun 15 (by decide), r15 11 (by decide)]; exact rec_k (by decide)) (by rw [q16]; exact hX.1.2.2.1) hs1 ⟨by rw [(hs20 16 (by decide)).2.1]; exact hX.1.2.1.1, by rw [(hs20 19 (by decide)).2.1]; exact hX.1.2.1.2⟩ (by omega) (by omega) (gd_tick hg0) ?_ ⟨t + 1, by rw [k_tick_00, if_pos rfl]; show μi 0 0 0 3 + 1 = _; rw [ht, nI_1], by omega⟩
              have := s_J_tick (q := k_rec (μi 15)) hJ0 (by omega) (by rw [ht, nI_1]; exact fun z => absurd ((nI_ltI (a := 100000) (by decide) (by omega)).mp z) (by omega))
              rwa [show 108 * (n + 1) = 108 * n + 108 by omega]
            have hwr1 : ∀ i, i < u → μ1 19 52 0 i = wr i := fun i hi => by rw [q19]; exact hX.2 i hi
            have hN1 : o_NW (μi 0) w S μ1 := o_NW_x hN (hs20 16 (by decide)).1 (hs20 18 (by decide)).1 (hs20 16 (by decide)).2.1 (hs20 18 (by decide)).2.1 (hs20 16 (by decide)).2.2 q16 q18
            have he1 : μ1 0 = (k_tick (μi 0, k_rec (μi 15))).1 := (hrun 0 (by decide)).trans r0
            refine ca_if_ne (tgt := 163) h dL_law_158 (by decide) (fun c_158 => ?_) (fun c_158 => ?_)
            ·
              refine ca_widen (k := (2100 + 1000 * n + 11)) (n := (27000 + 2500 * n + 96)) (by omega) (by omega) ?_
              exact ca_pick [2, 3, 4, 5, 6, 7, 8, 0] rfl (c_lawK (S0 := S) (μ0 := μ1) h hG kk hn1 hH.1 hY1 hwr1 hN1 hJ0.2.1 hJ0.2.2.1 (by rw [ht, nI_1]; exact fun z => absurd ((nI_ltI (a := 100000) (by decide) (by omega)).mp z) (by omega)) he1)
            · exact absurd c_158 (by decide)
  refine ca_pick [0, 1, 2, 3, 4, 5, 6] rfl ?_
  exact loop_112 24 0 (by omega) Sa μ 0 j wr w hX0 hN0
