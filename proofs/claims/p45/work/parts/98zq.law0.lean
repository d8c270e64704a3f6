/-! THE LAW: what holds between two acts, between two undos -/
theorem s_A_ag {X : Nat} {n m : ch_N} (h : k_ag n m) (g : s_A X m) : s_A X n := by
  obtain ⟨⟨a0, a0'⟩, a1, a2, a3, ⟨x, y, z, ex, ey, ez, q1, q2⟩, a5, a6, a7⟩ := g
  have em := k_ag_mc h
  have ec := k_ag_cc h
  have e7 : n 7 0 = m 7 0 := h.2.2.2.2.2
  have e2 : ∀ r, r < 64 → n 2 r 2 = m 2 r 2 := fun r hr => ag_2 h hr (by decide)
  refine ⟨⟨by omega, by omega⟩, fun c hc => ?_, fun c hc => ?_, ?_, ⟨x, y, z, by rw [e7]; exact ex, by rw [e7]; exact ey, by rw [e7]; exact ez, q1, q2⟩, fun r hr => by rw [e2 r hr]; exact a5 r hr, fun i hi ht => ?_, fun r hr => by rw [ag_2 h hr (by decide)]; exact a7 r hr⟩
  · have eT : o_T n (nI c) = o_T m (nI c) := by
      unfold o_T
      rw [em]
      exact kf_cg _ _ (fun i y hi => by rw [ag_3 h (i := i) (f := 4) (by omega) (by decide), ag_3 h (i := i) (f := 5) (by omega) (by decide)])
    rw [eT, ag_1 h (by omega) (by decide)]
    exact a1 c (by omega)
  · have eW : o_W n c = o_W m c := by
      unfold o_W
      rw [em]
      exact kf_cg _ _ (fun i y hi => by rw [ag_3 h (i := i) (f := 8) (by omega) (by decide)])
    rw [eW, ag_1 h (by omega) (by decide)]
    exact a2 c (by omega)
  · rw [e7, ← a3, ec]
    refine kf_cg _ _ (fun a y ha => ?_)
    unfold s_sa
    rw [ec]
    refine kf_cg _ _ (fun b v hb => ?_)
    unfold s_sb
    rw [e2 _ (by omega)]
  · rw [em] at hi
    rw [ag_3 h (by omega) (by decide)] at ht
    obtain ⟨s, hs, e⟩ := a6 i hi ht
    exact ⟨s, by omega, by rw [ag_3 h (by omega) (by decide)]; exact e⟩
theorem s_J_ag {B : Nat} {n m : ch_N} (h : k_ag n m) (g : s_J B m) : s_J B n := by
  obtain ⟨a, b, ⟨Q, c1, c2, c3⟩, d, ⟨k, e1, e2, e3, y, e4, e5⟩⟩ := g
  have em := k_ag_mc h
  have ec := k_ag_cc h
  have h12 := a.1.1
  have h8 := a.1.2
  refine ⟨s_A_ag h a, k_G_ag h b, ⟨Q, c1, by rw [ag_0 h (by decide)]; exact c2, fun i hi h8 => ?_⟩, fun i hi z => ?_, ⟨k, by rw [ag_0 h (by decide)]; exact e1, e2, fun c hc => ?_, y, by rw [h.2.2.2.2.2]; exact e4, e5⟩⟩
  · rw [ag_3 h (by omega) (by decide)] at h8
    rw [ag_0 h (by decide), ag_3 h (by omega) (by decide)]
    exact c3 i (by omega) h8
  · rw [ag_3 h (by omega) (by decide)] at z ⊢
    exact d i (by omega) z
  · rw [ag_1 h (by omega) (by decide)]
    exact e3 c (by omega)
def o_rg (C B T : Nat) (x : Int32) (n : ch_N) : Prop := o_gd C n ∧ s_J B n ∧ (∃ t, n 0 0 3 = nI t ∧ t ≤ T) ∧ a_all n = x
theorem rg_ag {C B T : Nat} {x : Int32} {n m : ch_N} (h : k_ag n m) (hc : k_c8 n) (g : o_rg C B T x m) : o_rg C B T x n :=
  ⟨gd_ag h hc g.1, s_J_ag h g.2.1, by rw [ag_0 h (by decide)]; exact g.2.2.1, (a_all_ag h g.1.1).trans g.2.2.2⟩
theorem rg_mono {C B T B' T' : Nat} {x : Int32} {n : ch_N} (g : o_rg C B T x n) (hB : B ≤ B') (hT : T ≤ T') : o_rg C B' T' x n :=
  ⟨g.1, s_J_mono g.2.1 hB, by obtain ⟨t, a, b⟩ := g.2.2.1; exact ⟨t, a, by omega⟩, g.2.2.2⟩
/-- u networks in the ring, the next slot j; wr tells them -/
def o_Hs (C B T : Nat) (wr : Nat → Int32) (u j : Nat) (μ : ch_M) : Prop := u ≤ 12 ∧ j < 12 ∧ μ 15 14 0 0 = nI u ∧ μ 15 14 0 1 = nI j ∧ ∀ i, i < u → o_rg C B T (wr i) (k_ring μ j u i)
def o_sh (wr : Nat → Int32) (u : Nat) (x : Int32) : Nat → Int32 := if u = 12 then (fun i => if i < 11 then wr (i + 1) else x) else fun i => if i < u then wr i else x
theorem Hs_rec {C B T : Nat} {wr : Nat → Int32} {u j : Nat} {x : Int32} {μ μ' : ch_M} (h : o_Hs C B T wr u j μ) (hx : o_rg C B T x (μ 0)) (hc : ∀ k, k < 15 → k_c8 (μ k)) (e : ∀ i, i < 12 → i ≠ j → μ' (3 + i) = μ (3 + i)) (ej : μ' (3 + j) = k_cp (μ (3 + j)) (μ 0)) (e15 : μ' 15 14 = k_rec (μ 15) 14) : o_Hs C B T (o_sh wr u x) (r_pu u) ((j + 1) % 12) μ' := by
  obtain ⟨h1, h2, h3, h4, h5⟩ := h
  refine ⟨by unfold r_pu; split <;> omega, by omega, ?_, ?_, fun i hi => ?_⟩
  · rw [e15]
    unfold k_rec
    rw [nw_at, if_pos ⟨rfl, rfl, rfl⟩, h3, k_min_pu h1]
  · rw [e15]; exact rec_1 h4 h2
  · have hj : o_rg C B T x (μ' (3 + j)) := by rw [ej]; exact rg_ag (k_cp_ag _ _) (k_cp_c8 (hc _ (by omega)) (hc _ (by omega))) hx
    unfold r_pu at hi ⊢
    unfold o_sh k_ring
    by_cases g : u = 12
    · subst g
      rw [if_pos rfl] at hi ⊢
      rw [if_pos rfl]
      by_cases g2 : i < 11
      · rw [if_pos g2, e _ (by omega) (by omega)]
        have := h5 (i + 1) (by omega)
        unfold k_ring at this
        rwa [show (j + 12 - 12 + (i + 1)) % 12 = ((j + 1) % 12 + 12 - 12 + i) % 12 by omega] at this
      · rw [if_neg g2, show ((j + 1) % 12 + 12 - 12 + i) % 12 = j by omega]
        exact hj
    · rw [if_neg g] at hi ⊢
      rw [if_neg g]
      by_cases g2 : i < u
      · rw [if_pos g2, e _ (by omega) (by omega)]
        have := h5 i g2
        unfold k_ring at this
        rwa [show (j + 12 - u + i) % 12 = ((j + 1) % 12 + 12 - (u + 1) + i) % 12 by omega] at this
      · rw [if_neg g2, show ((j + 1) % 12 + 12 - (u + 1) + i) % 12 = j by omega]
        exact hj
theorem lx_lt {j : Nat} (h : j < 12) : k_lx j < 12 ∧ (∀ u i, u + 1 ≤ 12 → i < u → (k_lx j + 12 - u + i) % 12 = (j + 12 - (u + 1) + i) % 12) ∧ ∀ u, u + 1 ≤ 12 → (j + 12 - (u + 1) + u) % 12 = k_lx j := by
  unfold k_lx
  split
  · exact ⟨by omega, fun u i a b => by omega, fun u a => by omega⟩
  · exact ⟨by omega, fun u i a b => by omega, fun u a => by omega⟩
theorem Hs_undo {C B T : Nat} {wr : Nat → Int32} {u j : Nat} {μ μ' : ch_M} (h : o_Hs C B T wr (u + 1) j μ) (e : ∀ i, i < 12 → μ' (3 + i) = μ (3 + i)) (ea : μ' 15 14 0 0 = nI u) (eb : μ' 15 14 0 1 = nI (k_lx j)) : o_Hs C B T wr u (k_lx j) μ' ∧ o_rg C B T (wr u) (μ (3 + k_lx j)) := by
  obtain ⟨h1, h2, h3, h4, h5⟩ := h
  obtain ⟨l1, l2, l3⟩ := lx_lt h2
  refine ⟨⟨by omega, l1, ea, eb, fun i hi => ?_⟩, ?_⟩
  · have := h5 i (by omega)
    unfold k_ring at this ⊢
    rw [e _ (Nat.mod_lt _ (by decide)), l2 u i h1 hi]
    exact this
  · have := h5 u (by omega)
    unfold k_ring at this
    rwa [l3 u h1] at this
def o_SN (C : Nat) (bf : Int32) (μ : ch_M) : Prop := o_gd C (μ 2) ∧ a_all (μ 2) = bf ∧ ¬ μ 15 11 0 7 = 0
def o_LY (E : ch_E) (B T : Nat) (bf : Int32) (u j : Nat) (wr : Nat → Int32) (S : ch_S) (μ : ch_M) : Prop :=
  ch_Std E S ∧ (S.2.1 16 22 0 ∧ S.2.1 19 52 0) ∧ μ 16 22 0 0 = nI (a_C E) ∧ (∀ k, k < 15 → k_c8 (μ k)) ∧ (∃ x, o_rg (a_C E) B T x (μ 0)) ∧ o_Hs (a_C E) B T wr u j μ ∧ o_SN (a_C E) bf μ
def o_LX (E : ch_E) (B T : Nat) (bf : Int32) (u j : Nat) (wr : Nat → Int32) (S : ch_S) (μ : ch_M) : Prop := o_LY E B T bf u j wr S μ ∧ ∀ i, i < u → μ 19 52 0 i = wr i
section LX
variable {E : ch_E} {B T u j : Nat} {bf : Int32} {wr : Nat → Int32} {S S' : ch_S} {μ μ' : ch_M}
theorem o_LY.z (h : o_LY E B T bf u j wr S μ) : o_Z (a_C E) μ := by
  obtain ⟨-, -, h3, h4, ⟨x, h5⟩, -⟩ := h
  exact ⟨h4, h5.1, h3⟩
theorem o_LY.rg (h : o_LY E B T bf u j wr S μ) : o_rg (a_C E) B T (a_all (μ 0)) (μ 0) := by
  obtain ⟨x, h5⟩ := h.2.2.2.2.1
  exact ⟨h5.1, h5.2.1, h5.2.2.1, rfl⟩
theorem LX_undo (h : o_LX E B T bf (u + 1) j wr S μ) : let M := up (up μ 0 (k_cp (μ 0) (μ (3 + k_lx j)))) 15 (k_tkb (μ 15) j); o_LX E B T bf u (k_lx j) wr S M ∧ a_all (M 0) = wr u ∧ M 19 52 0 u = wr u := by
  intro M
  obtain ⟨⟨h1, h2, h3, h4, h5, h6, h7⟩, h8⟩ := h
  obtain ⟨l1, -, -⟩ := lx_lt h6.2.1
  have m0 : M 0 = k_cp (μ 0) (μ (3 + k_lx j)) := by show up _ _ _ _ = _; rw [up_n (by decide), up_s]
  have m15 : M 15 = k_tkb (μ 15) j := by show up _ _ _ _ = _; rw [up_s]
  have mk : ∀ k, k ≠ 0 → k ≠ 15 → M k = μ k := fun k a b => by show up _ _ _ _ = _; rw [up_n b, up_n a]
  obtain ⟨g1, g2⟩ := Hs_undo h6 (μ' := M) (fun i hi => mk (3 + i) (by omega) (by omega)) (by rw [m15]; unfold k_tkb; rw [nw_at, if_pos ⟨rfl, rfl, rfl⟩, h6.2.2.1, nI_pred]) (by rw [m15]; unfold k_tkb; rw [nw_at, if_neg (by decide), nw_at, if_pos ⟨rfl, rfl, rfl⟩])
  have c0 : k_c8 (M 0) := by rw [m0]; exact k_cp_c8 (h4 0 (by decide)) (h4 _ (by omega))
  have r0 : o_rg (a_C E) B T (wr u) (M 0) := rg_ag (by rw [m0]; exact k_cp_ag _ _) c0 g2
  refine ⟨⟨⟨h1, h2, by rw [mk 16 (by decide) (by decide)]; exact h3, fun k hk => ?_, ⟨_, r0⟩, g1, ?_⟩, fun i hi => by rw [mk 19 (by decide) (by decide)]; exact h8 i (by omega)⟩, r0.2.2.2, by rw [mk 19 (by decide) (by decide)]; exact h8 u (by omega)⟩
  · by_cases k0 : k = 0
    · rw [k0]; exact c0
    · rw [mk k k0 (by omega)]; exact h4 k hk
  · unfold o_SN
    rw [mk 2 (by decide) (by decide), m15]
    unfold k_tkb
    rw [nw_k (by decide), nw_k (by decide)]
    exact h7
theorem LX_U (h : o_LX E B T bf u j wr S μ) (hu : u ≤ 10) (g : o_U j u μ μ') : o_LX E B T bf u j wr S μ' := by
  obtain ⟨⟨h1, h2, h3, h4, ⟨x, h5⟩, h6, h7⟩, h8⟩ := h
  obtain ⟨g0, g2, gi, g16, g11, gu, gj, gc⟩ := g
  have hj := h6.2.1
  refine ⟨⟨h1, h2, by rw [g16 16 (by decide)]; exact h3, gc, ⟨x, rg_ag g0 (gc 0 (by decide)) h5⟩, ⟨h6.1, hj, gu, gj, fun i hi => ?_⟩, ?_⟩, fun i hi => by rw [g16 19 (by decide)]; exact h8 i hi⟩
  · have := h6.2.2.2.2 i hi
    unfold k_ring at this ⊢
    rw [gi _ (Nat.mod_lt _ (by decide)) (by omega) (by omega)]
    exact this
  · unfold o_SN
    rw [g2, g11]
    exact h7
theorem LY_15 (h : o_LY E B T bf u j wr S μ) (e : ∀ k, k ≠ 15 → μ' k = μ k) (e15 : ∀ kd, kd ≤ 16 → μ' 15 kd = μ 15 kd) : o_LY E B T bf u j wr S μ' := by
  obtain ⟨h1, h2, h3, h4, h5, h6, h7⟩ := h
  refine ⟨h1, h2, by rw [e 16 (by decide)]; exact h3, fun k hk => by rw [e k (by omega)]; exact h4 k hk, by rw [e 0 (by decide)]; exact h5, ⟨h6.1, h6.2.1, by rw [e15 14 (by decide)]; exact h6.2.2.1, by rw [e15 14 (by decide)]; exact h6.2.2.2.1, fun i hi => ?_⟩, ?_⟩
  · have := h6.2.2.2.2 i hi
    unfold k_ring at this ⊢
    rw [e _ (by have := Nat.mod_lt (j + 12 - u + i) (show 12 > 0 by decide); omega)]
    exact this
  · unfold o_SN
    rw [e 2 (by decide), e15 11 (by decide)]
    exact h7
/-- the same in the class, larger bounds -/
theorem LY_same {B' T' : Nat} (h : o_LY E B T bf u j wr S μ) (e : ∀ k, k < 16 → μ' k = μ k) (e16 : μ' 16 22 0 0 = μ 16 22 0 0) (hs : ch_Std E S') (hv : S'.2.1 16 22 0 ∧ S'.2.1 19 52 0) (hB : B ≤ B') (hT : T ≤ T') : o_LY E B' T' bf u j wr S' μ' := by
  obtain ⟨h1, h2, h3, h4, ⟨x, h5⟩, h6, h7⟩ := h
  refine ⟨hs, hv, by rw [e16]; exact h3, fun k hk => by rw [e k (by omega)]; exact h4 k hk, ⟨x, by rw [e 0 (by decide)]; exact rg_mono h5 hB hT⟩, ⟨h6.1, h6.2.1, by rw [e 15 (by decide)]; exact h6.2.2.1, by rw [e 15 (by decide)]; exact h6.2.2.2.1, fun i hi => ?_⟩, ?_⟩
  · have := h6.2.2.2.2 i hi
    unfold k_ring at this ⊢
    rw [e _ (by have := Nat.mod_lt (j + 12 - u + i) (show 12 > 0 by decide); omega)]
    exact rg_mono this hB hT
  · unfold o_SN
    rw [e 2 (by decide), e 15 (by decide)]
    exact h7
/-- an act recorded -/
theorem LY_rec {B' T' : Nat} {n' : ch_N} (h : o_LY E B T bf u j wr S μ) (e0 : μ' 0 = n') (e2 : μ' 2 = μ 2) (e1 : μ' 1 = μ 1) (ei : ∀ i, i < 12 → i ≠ j → μ' (3 + i) = μ (3 + i)) (ej : μ' (3 + j) = k_cp (μ (3 + j)) (μ 0)) (e14 : μ' 15 14 = k_rec (μ 15) 14) (e11 : μ' 15 11 = μ 15 11) (e16 : μ' 16 22 0 0 = nI (a_C E))
    (hs : ch_Std E S') (hv : S'.2.1 16 22 0 ∧ S'.2.1 19 52 0) (hB : B ≤ B') (hT : T ≤ T') (hg : o_gd (a_C E) n') (hJ : s_J B' n') (ht : ∃ t, n' 0 0 3 = nI t ∧ t ≤ T') : o_LY E B' T' bf (r_pu u) ((j + 1) % 12) (o_sh wr u (a_all (μ 0))) S' μ' := by
  have hrg := h.rg
  obtain ⟨h1, h2, h3, h4, ⟨x, h5⟩, h6, h7⟩ := h
  have hj := h6.2.1
  have hH := Hs_rec h6 hrg h4 ei ej e14
  have hc' : ∀ k, k < 15 → k_c8 (μ' k) := fun k hk => by
    by_cases k0 : k = 0
    · rw [k0, e0]; exact c8_wf hg.1
    · by_cases k1 : k = 1
      · rw [k1, e1]; exact h4 1 (by decide)
      · by_cases k2 : k = 2
        · rw [k2, e2]; exact h4 2 (by decide)
        · obtain ⟨i, hi, rfl⟩ : ∃ i, i < 12 ∧ k = 3 + i := ⟨k - 3, by omega, by omega⟩
          by_cases g : i = j
          · rw [g, ej]; exact k_cp_c8 (h4 _ (by omega)) (h4 _ (by omega))
          · rw [ei i hi g]; exact h4 _ hk
  refine ⟨hs, hv, e16, hc', ⟨a_all n', by rw [e0]; exact ⟨hg, hJ, ht, rfl⟩⟩, ⟨hH.1, hH.2.1, hH.2.2.1, hH.2.2.2.1, fun i hi => rg_mono (hH.2.2.2.2 i hi) hB hT⟩, ?_⟩
  unfold o_SN
  rw [e2, e11]
  exact h7
end LX
