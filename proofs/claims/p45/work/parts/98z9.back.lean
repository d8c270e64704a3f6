/-! THE LAW: trials that are taken back -/
theorem c8_wf {n : ch_N} (h : k_wf n) : k_c8 n := fun i c hi hc => ⟨(h.2.2.2.2.2 i c hi hc).1, (h.2.2.2.2.2 i c hi hc).2.1⟩
theorem ag_rfl (n : ch_N) : k_ag n n := ⟨fun _ _ => rfl, fun _ _ _ _ => rfl, fun _ _ _ _ => rfl, fun _ _ _ _ => rfl, fun _ _ => ⟨rfl, rfl, rfl⟩, rfl⟩
theorem ag_sym {n m : ch_N} (h : k_ag n m) : k_ag m n := by
  obtain ⟨h0, h1, h2, h3, h4, h5⟩ := h
  exact ⟨fun j hj => (h0 j hj).symm, fun c j a b => (h1 c j a b).symm, fun r j a b => (h2 r j a b).symm, fun i j a b => (h3 i j a b).symm, fun i a => ⟨(h4 i a).1.symm, (h4 i a).2.1.symm, (h4 i a).2.2.symm⟩, h5.symm⟩
theorem ag_tr {n m k : ch_N} (h : k_ag n m) (g : k_ag m k) : k_ag n k := by
  obtain ⟨h0, h1, h2, h3, h4, h5⟩ := h
  obtain ⟨g0, g1, g2, g3, g4, g5⟩ := g
  exact ⟨fun j hj => (h0 j hj).trans (g0 j hj), fun c j a b => (h1 c j a b).trans (g1 c j a b), fun r j a b => (h2 r j a b).trans (g2 r j a b), fun i j a b => (h3 i j a b).trans (g3 i j a b), fun i a => ⟨(h4 i a).1.trans (g4 i a).1, (h4 i a).2.1.trans (g4 i a).2.1, (h4 i a).2.2.trans (g4 i a).2.2⟩, h5.trans g5⟩
/-- a network with C cells that all can read -/
def o_gd (C : Nat) (n : ch_N) : Prop := k_wf n ∧ n 0 0 2 = nI (k_mc n) ∧ k_cc n = C
def o_Z (C : Nat) (μ : ch_M) : Prop := (∀ k, k < 15 → k_c8 (μ k)) ∧ o_gd C (μ 0) ∧ μ 16 22 0 0 = nI C
theorem gd_ag {C : Nat} {n m : ch_N} (h : k_ag n m) (hc : k_c8 n) (g : o_gd C m) : o_gd C n :=
  ⟨k_wf_ag h hc g.1, by rw [h.1 2 (by decide), k_ag_mc h]; exact g.2.1, by rw [k_ag_cc h]; exact g.2.2⟩
theorem o_Z.wf {C : Nat} {μ : ch_M} (h : o_Z C μ) : k_wf (μ 0) := h.2.1.1
theorem o_Z.mc {C : Nat} {μ : ch_M} (h : o_Z C μ) : μ 0 0 0 2 = nI (k_mc (μ 0)) := h.2.1.2.1
theorem o_Z.cc {C : Nat} {μ : ch_M} (h : o_Z C μ) : μ 16 22 0 0 = nI (k_cc (μ 0)) := by rw [h.2.1.2.2]; exact h.2.2
/-- recorded at j, then N -/
def o_R1 (u j x : Nat) (μ μ' : ch_M) (N : ch_N) : Prop := μ' 0 = N ∧ μ' 1 = μ 1 ∧ μ' 2 = μ 2 ∧ μ' (3 + j) = k_cp (μ (3 + j)) (μ 0) ∧ (∀ i, i < 12 → i ≠ j → i ≠ x → μ' (3 + i) = μ (3 + i)) ∧ (∀ k, 16 ≤ k → μ' k = μ k) ∧ μ' 15 11 = μ 15 11 ∧ μ' 15 14 0 0 = nI (u + 1) ∧ μ' 15 14 0 1 = nI ((j + 1) % 12)
/-- as before, but for the trial's network, two slots of the ring and the like -/
def o_U (j u : Nat) (μ μ' : ch_M) : Prop := k_ag (μ' 0) (μ 0) ∧ μ' 2 = μ 2 ∧ (∀ i, i < 12 → i ≠ j → i ≠ (j + 1) % 12 → μ' (3 + i) = μ (3 + i)) ∧ (∀ k, 16 ≤ k → μ' k = μ k) ∧ μ' 15 11 = μ 15 11 ∧ μ' 15 14 0 0 = nI u ∧ μ' 15 14 0 1 = nI j ∧ ∀ k, k < 15 → k_c8 (μ' k)
theorem rec_0 {q : ch_N} {u : Nat} (hu : q 14 0 0 = nI u) (h : u ≤ 11) : k_rec q 14 0 0 = nI (u + 1) := by
  unfold k_rec
  rw [nw_at, if_pos ⟨rfl, rfl, rfl⟩, hu, k_min_pu (by omega)]
  unfold r_pu
  rw [if_neg (by omega)]
theorem rec_1 {q : ch_N} {j : Nat} (hj : q 14 0 1 = nI j) (h : j < 12) : k_rec q 14 0 1 = nI ((j + 1) % 12) := by
  unfold k_rec
  rw [nw_at, if_neg (by decide), nw_at, if_pos ⟨rfl, rfl, rfl⟩, hj, k_nx_p h]
theorem rec_k {q : ch_N} {kd : Nat} (h : kd ≠ 14) : k_rec q kd = q kd := by unfold k_rec; rw [nw_k h, nw_k h]
theorem R1_mk {μ : ch_M} {u j x : Nat} {N q : ch_N} (hj : j < 12) (hu : μ 15 14 0 0 = nI u) (hu11 : u ≤ 11) (hnx : μ 15 14 0 1 = nI j) (hq : q 11 = μ 15 11) (hq4 : q 14 = k_rec (μ 15) 14) : o_R1 u j x μ (up (up (k_rcm μ j) 0 N) 15 q) N := by
  have e : ∀ k, k ≠ 0 → k ≠ 15 → (up (up (k_rcm μ j) 0 N) 15 q) k = (up μ (3 + j) (k_cp (μ (3 + j)) (μ 0))) k := fun k h0 h15 => by
    rw [up_n h15, up_n h0]
    unfold k_rcm
    rw [up_n h15]
  refine ⟨by rw [up_n (by decide), up_s], by rw [e 1 (by decide) (by decide), up_n (by omega)], by rw [e 2 (by decide) (by decide), up_n (by omega)], by rw [e (3 + j) (by omega) (by omega), up_s], fun i hi hij _ => by rw [e (3 + i) (by omega) (by omega), up_n (by omega)], fun k hk => by rw [e k (by omega) (by omega), up_n (by omega)], by rw [up_s]; exact hq, ?_, ?_⟩
  · rw [up_s, hq4]; exact rec_0 hu hu11
  · rw [up_s, hq4]; exact rec_1 hnx hj
theorem R1_set {μ : ch_M} {u j x : Nat} {N : ch_N} (hj : j < 12) (hu : μ 15 14 0 0 = nI u) (hu11 : u ≤ 11) (hnx : μ 15 14 0 1 = nI j) : o_R1 u j x μ (up (k_rcm μ j) 0 N) N := by
  have h := R1_mk (x := x) (N := N) (q := k_rec (μ 15)) hj hu hu11 hnx (rec_k (by decide)) rfl
  have e : up (up (k_rcm μ j) 0 N) 15 (k_rec (μ 15)) = up (k_rcm μ j) 0 N := by
    have e1 : (up (k_rcm μ j) 0 N) 15 = k_rec (μ 15) := by rw [up_n (by decide)]; unfold k_rcm; rw [up_s]
    rw [← e1]
    funext k
    by_cases g : k = 15
    · rw [g, up_s]
    · rw [up_n g]
  rw [e] at h
  exact h
theorem lx_nx {j : Nat} (h : j < 12) : k_lx ((j + 1) % 12) = j := by
  unfold k_lx
  by_cases e : j = 11
  · subst e; rfl
  · rw [Nat.mod_eq_of_lt (by omega), if_pos (by omega)]; omega
/-- taken back -/
theorem undo_1 {μ μ' : ch_M} {u j x : Nat} {N : ch_N} (h : o_R1 u j x μ μ' N) (hj : j < 12) (hc : ∀ k, k < 15 → k_c8 (μ' k)) :
    let M := up (up μ' 0 (k_cp (μ' 0) (μ' (3 + k_lx ((j + 1) % 12))))) 15 (k_tkb (μ' 15) ((j + 1) % 12))
    k_ag (M 0) (μ 0) ∧ M 1 = μ 1 ∧ M 2 = μ 2 ∧ (∀ i, i < 12 → i ≠ j → i ≠ x → M (3 + i) = μ (3 + i)) ∧ (∀ k, 16 ≤ k → M k = μ k) ∧ M 15 11 = μ 15 11 ∧ M 15 14 0 0 = nI u ∧ M 15 14 0 1 = nI j ∧ ∀ k, k < 15 → k_c8 (M k) := by
  intro M
  obtain ⟨e0, e1, e2, ej, ei, e16, e11, ea, eb⟩ := h
  have hM : M = up (up μ' 0 (k_cp (μ' 0) (μ' (3 + k_lx ((j + 1) % 12))))) 15 (k_tkb (μ' 15) ((j + 1) % 12)) := rfl
  rw [lx_nx hj] at hM
  have f0 : M 0 = k_cp (μ' 0) (μ' (3 + j)) := by rw [hM, up_n (by decide), up_s]
  have fk : ∀ k, k ≠ 0 → k ≠ 15 → M k = μ' k := fun k a b => by rw [hM, up_n b, up_n a]
  have f15 : M 15 = k_tkb (μ' 15) ((j + 1) % 12) := by rw [hM, up_s]
  refine ⟨by rw [f0, ej]; exact ag_tr (k_cp_ag _ _) (k_cp_ag _ _), (fk 1 (by decide) (by decide)).trans e1, (fk 2 (by decide) (by decide)).trans e2, fun i hi hij hx => (fk (3 + i) (by omega) (by omega)).trans (ei i hi hij hx), fun k hk => (fk k (by omega) (by omega)).trans (e16 k hk), ?_, ?_, ?_, fun k hk => ?_⟩
  · rw [f15]; unfold k_tkb; rw [nw_k (by decide), nw_k (by decide)]; exact e11
  · rw [f15]; unfold k_tkb; rw [nw_at, if_pos ⟨rfl, rfl, rfl⟩, ea, nI_pred]
  · rw [f15]; unfold k_tkb; rw [nw_at, if_neg (by decide), nw_at, if_pos ⟨rfl, rfl, rfl⟩, lx_nx hj]
  · by_cases k0 : k = 0
    · rw [k0, f0]; exact k_cp_c8 (hc _ (by omega)) (hc _ (by omega))
    · rw [fk k k0 (by omega)]; exact hc k hk
theorem R1_c8 {μ μ' : ch_M} {u j : Nat} {N : ch_N} (h : o_R1 u j 12 μ μ' N) (hc : ∀ k, k < 15 → k_c8 (μ k)) (hN : k_c8 N) : ∀ k, k < 15 → k_c8 (μ' k) := by
  obtain ⟨e0, e1, e2, ej, ei, -⟩ := h
  intro k hk
  by_cases k0 : k = 0
  · rw [k0, e0]; exact hN
  · by_cases k1 : k = 1
    · rw [k1, e1]; exact hc _ (by decide)
    · by_cases k2 : k = 2
      · rw [k2, e2]; exact hc _ (by decide)
      · obtain ⟨i, hi, rfl⟩ : ∃ i, i < 12 ∧ k = 3 + i := ⟨k - 3, by omega, by omega⟩
        by_cases g : i = j
        · rw [g, ej]
          by_cases gj : j < 12
          · exact k_cp_c8 (hc _ (by omega)) (hc _ (by omega))
          · omega
        · rw [ei i hi g (by omega)]; exact hc _ hk
theorem adv_00 (f : Nat) (hf : f ≠ 3) : ∀ (N : Nat) (s : ch_N × ch_N), (k_adv N s).1 0 0 f = s.1 0 0 f
  | 0, _ => rfl
  | N + 1, s => by
    show (k_tick (k_adv N s)).1 0 0 f = _
    rw [k_tick_00, if_neg hf, adv_00 f hf N s]
theorem adv_03 : ∀ (N : Nat) (s : ch_N × ch_N), (k_adv N s).1 0 0 3 = s.1 0 0 3 + nI N
  | 0, s => by show s.1 0 0 3 = s.1 0 0 3 + 0; rw [Int32.add_zero]
  | N + 1, s => by
    show (k_tick (k_adv N s)).1 0 0 3 = _
    rw [k_tick_00, if_pos rfl, adv_03 N s, Int32.add_assoc, nI_1]
theorem s_J_adv : ∀ (N B t : Nat) (s : ch_N × ch_N), s_J B s.1 → B + 108 * N + 200 < 2 ^ 31 → s.1 0 0 3 = nI t → t + N ≤ 100000 → s_J (B + 108 * N) (k_adv N s).1
  | 0, _, _, _, h, _, _, _ => h
  | N + 1, B, t, s, h, hB, ht, hN => by
    have ih := s_J_adv N B t s h (by omega) ht (by omega)
    have e3 := adv_03 N s
    show s_J _ (k_tick (k_adv N s)).1
    generalize k_adv N s = a at ih e3 ⊢
    obtain ⟨x, y⟩ := a
    have := s_J_tick (q := y) ih (by omega) (by
      show ¬ 100000 < x 0 0 3 + 1
      have e3' : x 0 0 3 = s.1 0 0 3 + nI N := e3
      rw [e3', ht, nI_add, nI_1]
      exact fun z => absurd ((nI_ltI (a := 100000) (by decide) (by omega)).mp z) (by omega))
    rwa [show B + 108 * (N + 1) = B + 108 * N + 108 by omega]
theorem s_J_t0 {B : Nat} {n : ch_N} (h : s_J B n) (hB : B < 2 ^ 31) : ∃ x y, n 7 0 0 = nI x ∧ x < 2 ^ 31 ∧ n 7 0 3 = nI y ∧ y < 2 ^ 31 := by
  obtain ⟨a, -, -, -, ⟨k, -, hk, -, y, ey, hy⟩⟩ := h
  obtain ⟨x, y', z, ex, -, -, h1, h2⟩ := a.2.2.2.2.1
  exact ⟨x, y, ex, by omega, ey, by omega⟩
theorem k_rg_nI {lo hi x : Nat} (h1 : lo ≤ x) (h2 : x ≤ hi) (h3 : hi < 2 ^ 31) : k_rg (nI lo) (nI hi) (nI x) := ⟨nI_nlt h1 (by omega), nI_nlt h2 h3⟩
theorem k_tk9_nI {n : ch_N} {t T M : Nat} (ht : n 0 0 3 = nI t) (h : t + T ≤ 100000) (hT : T ≤ M) (hM : M < 2 ^ 31) : k_tk9 n (nI M) (nI T) :=
  ⟨k_rg_nI (lo := 0) (by omega) hT hM, by rw [ht, nI_add]; exact k_rg_nI (lo := 0) (hi := 100000) (by omega) h (by decide)⟩
