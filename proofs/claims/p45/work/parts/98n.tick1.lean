/-! the handovers that are considered, and the end of a tick -/
theorem s_F_ref {n0 n : ch_N} {J : Nat} {sv : Prop} (h8 : k_cc n0 ≤ 8) (h : s_F n0 n J sv) (i : Nat) (c : Int32) : s_F n0 (k_ref n i c) J sv := by
  have e3 : k_ref n i c 3 = n 3 := k_ref_ne (by decide)
  refine s_F_cg h8 h (k_ref_ne (by decide)) (fun r => by unfold s_V k_ref; rw [nw_at, if_neg (fun z => absurd z.2.2 (by decide))]) (by rw [k_ref_ne (by decide)]; exact ⟨rfl, rfl⟩) (fun m hm => by rw [e3]; exact ⟨id, fun z => ⟨z, rfl, fun x => ⟨x, Or.inr rfl⟩⟩⟩) (fun m hm z => ?_) (fun m hm z y => ?_)
  · rw [e3] at z ⊢; rw [k_mc_0 (k_ref_ne (by decide))] at hm; exact h.2.2.1 m hm z
  · rw [e3, y] at z; exact absurd z (by decide)
theorem s_F_mrq {n0 n : ch_N} {J i : Nat} {c v : Int32} (h8 : k_cc n0 ≤ 8) (h : s_F n0 n J False) (ht : n 3 i 4 = 1) : s_F n0 (k_mrq n i c v) J False := by
  have e3 : ∀ j f, k_mrq n i c v 3 j f = if j = i ∧ f = 9 then v else if j = i ∧ f = 8 then c else n 3 j f := fun j f => by unfold k_mrq; rw [nw_at, nw_at]; simp only [true_and]
  refine s_F_cg h8 h (k_mrq_ne (by decide)) (fun r => by unfold s_V; rw [k_mrq_ne (by decide)]) (by rw [k_mrq_ne (by decide)]; exact ⟨rfl, rfl⟩) (fun m hm => ⟨fun z => by simp [e3, z], fun z => ⟨by simp [e3, z], by simp [e3], fun x => x.elim⟩⟩) (fun m hm z => ?_) (fun m hm z y => ?_)
  · have e4 : n 3 m 4 = 0 := by simpa [e3] using z
    have g : m ≠ i := fun q => by rw [q, ht] at e4; exact absurd e4 (by decide)
    rw [k_mc_0 (k_mrq_ne (by decide))] at hm
    simp [e3, g]; exact h.2.2.1 m hm e4
  · have e4 : n 3 m 4 = 1 := by simpa [e3] using z
    rw [y] at e4; exact absurd e4 (by decide)
theorem s_F_c1 {n0 q : ch_N} {i N cc X : Nat} (h8 : k_cc n0 ≤ 8) (hq : ∀ k, k < N → ∃ c, c < cc ∧ k_car q (nI k) = nI c) (hX : X + 1 < 2 ^ 31) : ∀ (j : Nat), j ≤ N → ∀ (n : ch_N), s_A X n → k_cc n = cc → i < k_mc n → n 3 i 4 = 1 → s_F n0 n i False →
    s_F n0 (k_c1 q i N j n).2 (i + 1) False ∧ (¬ (k_c1 q i N j n).1 = true → (k_c1 q i N j n).2 3 = n 3)
  | 0, _, n, h, hcc, _, _, hF => ⟨s_F_J hF (by omega) id, fun _ => rfl⟩
  | j + 1, hj, n, h, hcc, hi, ht, hF => by
    obtain ⟨c, hc, ec⟩ := hq (N - (j + 1)) (by omega)
    unfold k_c1
    rw [ec]
    by_cases hfr : k_free n (nI c) = true
    · rw [if_pos hfr]
      exact ⟨s_F_ho hF h hX hi ht (by omega) (by omega) (fun _ => ⟨Nat.le_refl _, fun z => by omega⟩), fun z => absurd rfl z⟩
    · rw [if_neg hfr]
      have := s_F_c1 h8 hq hX j (by omega) _ (s_A_ref h i (nI c)) (by rw [k_cc_0 (k_ref_ne (by decide))]; exact hcc) (by rw [k_mc_0 (k_ref_ne (by decide))]; exact hi) (by rw [k_ref_ne (by decide)]; exact ht) (s_F_ref h8 hF i (nI c))
      exact ⟨this.1, fun z => (this.2 z).trans (k_ref_ne (by decide))⟩
theorem s_F_c2 {n0 q : ch_N} {i N J : Nat} (h8 : k_cc n0 ≤ 8) : ∀ (j : Nat) (n : ch_N), n 3 i 4 = 1 → s_F n0 n J False → s_F n0 (k_c2 q i N j n) J False
  | 0, n, _, h => h
  | j + 1, n, ht, h => by
    unfold k_c2
    split
    · exact s_F_mrq h8 h ht
    · exact s_F_c2 h8 j n ht h
theorem s_F_ch {n0 n q : ch_N} {X i : Nat} (h : s_F n0 n i False) (hA : s_A X n) (hX : X + 1 < 2 ^ 31) (hi : i < k_mc n) (ht : n 3 i 4 = 1) : s_F n0 (k_ch n q i).1 (i + 1) False := by
  obtain ⟨t, ht8, e0, hr, -⟩ := k_rank_in (n := n) (q := q) (i := i) hA.1.2
  have h8 := hA.1.2
  have hc8 : k_cc n0 ≤ 8 := by rw [← k_cc_0 h.1]; exact h8
  have hq : ∀ k, k < t → ∃ c, c < k_cc n ∧ k_car (k_rank n q i) (nI k) = nI c := fun k hk => by
    obtain ⟨c, hc, ec, -⟩ := hr k hk
    exact ⟨c, hc, (k_car_c e0 hk (by omega)).trans ec⟩
  obtain ⟨g1, g2⟩ := s_F_c1 (i := i) hc8 hq hX t (Nat.le_refl _) n hA rfl hi ht h
  unfold k_ch
  dsimp only
  rw [e0, nI_clamp (by omega)]
  by_cases c : (k_c1 (k_rank n q i) i t t n).1 = true
  · rw [if_pos c]; exact g1
  · rw [if_neg c]
    split
    · exact g1
    · exact s_F_c2 hc8 t _ (by rw [g2 c]; exact ht) g1
theorem s_F_dc {n0 n q : ch_N} {X : Nat} (hX : X + 12 < 2 ^ 31) (h : s_F n0 n 0 False) (hA : s_A X n) : ∀ N, N ≤ k_mc n → s_F n0 (kf s_dc N (n, q)).1 N False
  | 0, _ => h
  | N + 1, hN => by
    have hm12 := hA.1.1
    have ih := s_F_dc (q := q) hX h hA N (by omega)
    have iA := s_A_dc (q := q) hA N (by omega)
    have em := k_mc_0 (s_dc_0 N (n, q))
    show s_F n0 (s_dc N (kf s_dc N (n, q))).1 (N + 1) False
    generalize kf s_dc N (n, q) = s at ih iA em ⊢
    unfold s_dc
    by_cases c : s.1 3 N 4 = 1 ∧ s.1 3 N 8 = -1
    · rw [if_pos c]
      exact s_F_ch ih iA (by omega) (by rw [em]; exact hN) c.1
    · rw [if_neg c]; exact s_F_J ih (by omega) id
theorem s_F_cgs {n0 : ch_N} {J : Nat} (h8 : k_cc n0 ≤ 8) (c : Nat) (n : ch_N) (h : s_F n0 n J False) : s_F n0 (s_cg c n) J False := by
  unfold s_cg
  split
  · exact h
  · refine s_F_cg h8 h (nw_k (by decide)) (fun r => by unfold s_V; rw [nw_k (by decide)]) (by rw [nw_k (by decide)]; exact ⟨rfl, rfl⟩) (fun m hm => by rw [nw_k (by decide)]; exact ⟨id, fun z => ⟨z, rfl, fun x => x.elim⟩⟩) (fun m hm z => ?_) (fun m hm z y => ?_)
    · rw [nw_k (by decide)] at z ⊢; rw [k_mc_0 (nw_k (by decide))] at hm; exact h.2.2.1 m hm z
    · rw [nw_k (by decide), y] at z; exact absurd z (by decide)
theorem s_F_ex {n0 : ch_N} {J : Nat} (h8 : k_cc n0 ≤ 8) (i : Nat) (n : ch_N) (h : s_F n0 n J False) : s_F n0 (s_ex i n) J False := by
  unfold s_ex
  split
  · exact h
  · split
    · exact h
    · rw [k_ex_eq]
      have h1 := s_F_cnt h8 h (t := 7) (by decide)
      split
      · rename_i ht
        refine s_F_cnt h8 ?_ (by decide)
        have ht7 : k_cnt n 7 3 i 4 = 2 := by rw [k_cnt_3]; exact ht
        generalize k_cnt n 7 = n1 at h1 ht7 ⊢
        have ei : ∀ kd, kd ≠ 3 → kd ≠ 5 → kd ≠ 6 → k_idle n1 i kd = n1 kd := fun kd a b c => k_idle_ne a b c
        have e4 := fun m => idle_3 n1 i m 4 (Or.inl rfl)
        have e5 := fun m => idle_3 n1 i m 5 (Or.inr (Or.inl rfl))
        have e8 := fun m => idle_3 n1 i m 8 (Or.inr (Or.inr rfl))
        refine s_F_cg h8 h1 (ei 0 (by decide) (by decide) (by decide)) (fun r => by unfold s_V; rw [ei 2 (by decide) (by decide) (by decide)]) (by rw [ei 7 (by decide) (by decide) (by decide)]; exact ⟨rfl, rfl⟩) (fun m hm => ⟨fun z => ?_, fun z => ?_⟩) (fun m hm z => ?_) (fun m hm z y => ?_)
        · rw [e4]; split
          · rfl
          · exact z
        · have g : m ≠ i := fun q => by rw [q, ht7] at z; exact absurd z (by decide)
          rw [e4, e5, if_neg g, if_neg g]; exact ⟨z, rfl, fun x => x.elim⟩
        · rw [e4] at z; rw [e8]
          by_cases g : m = i
          · rw [if_pos g]; rfl
          · rw [if_neg g] at z ⊢; rw [k_mc_0 (ei 0 (by decide) (by decide) (by decide))] at hm; exact h1.2.2.1 m hm z
        · rw [e4] at z
          by_cases g : m = i
          · rw [if_pos g] at z; exact absurd z (by decide)
          · rw [if_neg g, y] at z; exact absurd z (by decide)
      · generalize k_cnt n 7 = n1 at h1 ⊢
        have e3 : ∀ m f, f ≠ 8 → nw n1 3 i 8 (-1) 3 m f = n1 3 m f := fun m f hf => by rw [nw_at, if_neg (fun z => hf z.2.2)]
        refine s_F_cg h8 h1 (nw_k (by decide)) (fun r => by unfold s_V; rw [nw_k (by decide)]) (by rw [nw_k (by decide)]; exact ⟨rfl, rfl⟩) (fun m hm => by rw [e3 m 4 (by decide), e3 m 5 (by decide)]; exact ⟨id, fun z => ⟨z, rfl, fun x => x.elim⟩⟩) (fun m hm z => ?_) (fun m hm z y => ?_)
        · rw [e3 m 4 (by decide)] at z; rw [k_mc_0 (nw_k (by decide))] at hm
          by_cases g : m = i
          · rw [nw_at, if_pos ⟨rfl, g, rfl⟩]
          · rw [nw_at, if_neg (fun q => g q.2.1)]; exact h1.2.2.1 m hm z
        · rw [e3 m 4 (by decide), y] at z; exact absurd z (by decide)
theorem s_F_kf {n0 : ch_N} {J : Nat} {sv : Prop} {f : Nat → ch_N → ch_N} (hf : ∀ i n, s_F n0 n J sv → s_F n0 (f i n) J sv) : ∀ (N : Nat) (n : ch_N), s_F n0 n J sv → s_F n0 (kf f N n) J sv
  | 0, _, h => h
  | N + 1, n, h => hf N _ (s_F_kf hf N n h)
/-- all that isTick sees -/
def s_T (n n' : ch_N) : Prop := (∀ m, m < k_mc n → (n 3 m 4 = 0 → n' 3 m 4 = 0) ∧ (n 3 m 4 = 1 → n' 3 m 4 = 1 ∨ n' 3 m 4 = 0)) ∧ s_cn n n' ∧ ∀ m, m < k_mc n → n 3 m 4 = 1 → n' 3 m 4 = 1 → s_P2 n n' m
theorem s_tick {n q : ch_N} {X : Nat} (hX : X + 200 < 2 ^ 31) (hA : s_A X n) (hz : s_z n) : s_T n (k_tick (n, q)).1 ∧ s_z (k_tick (n, q)).1 := by
  have hm12 := hA.1.1
  have h8 := hA.1.2
  have d0 : s_D n n := ⟨rfl, rfl, fun m => Or.inl ⟨rfl, rfl⟩, hz, by
    have : s_E n n = 0 := kf_cnt_F (p := fun m => n 3 m 4 = 1 ∧ ¬ n 3 m 4 = 1) _ (fun i _ z => z.2 z.1)
    unfold s_cn; rw [this]; exact (Int32.add_zero _).symm⟩
  unfold k_tick
  dsimp only
  have h1 : s_F n (k_t1 n) 0 True ∧ s_A (X + 96) (k_t1 n) := by
    refine ⟨?_, s_A_t1 hA⟩
    unfold k_t1
    dsimp only
    have a1 := s_A_kf (s_A_mv X) (k_mc n) n hA
    have d1 := s_D_kf (n0 := n) k_mv_0 (fun i n' _ h => s_D_mv n i n' h) (k_mc n) n (Nat.le_refl _) rfl d0
    have m1 := k_mc_0 (kf_0 k_mv_0 (k_mc n) n)
    generalize kf s_mv (k_mc n) n = n1 at a1 d1 m1 ⊢
    have a2 := s_A_kf (s_A_ms X) (k_mc n1) n1 a1
    have d2 := s_D_kf (n0 := n) s_ms_0 (fun i n' _ h => s_D_ms n i n' h) (k_mc n1) n1 (Nat.le_refl _) rfl d1
    generalize kf s_ms (k_mc n1) n1 = n2 at a2 d2 ⊢
    have a3 := s_A_kf (s_A_fin X) (k_mc n2) n2 a2
    have d3 := s_D_kf (n0 := n) s_fin_0 (fun i n' hi h => s_D_fin n i n' hi h) (k_mc n2) n2 (Nat.le_refl _) rfl d2
    generalize kf s_fin (k_mc n2) n2 = n3 at a3 d3 ⊢
    have a4 := s_A_kf (s_A_dr X) (k_mc n3) n3 a3
    have d4 := s_D_kf (n0 := n) s_dr_0 (fun i n' hi h => s_D_dr n i n' hi h) (k_mc n3) n3 (Nat.le_refl _) rfl d3
    generalize kf s_dr (k_mc n3) n3 = n4 at a4 d4 ⊢
    exact s_F_svs (by omega) a4 (s_F_D d4) (k_cc n4) (Nat.le_refl _)
  generalize k_t1 n = a at h1 ⊢
  obtain ⟨f1, g1⟩ := h1
  have f2 := s_F_dc (q := q) (by omega) (s_F_J f1 (Nat.le_refl 0) (fun z => z.elim)) g1 (k_mc a) (Nat.le_refl _)
  generalize (kf s_dc (k_mc a) (a, q)).1 = b at f2 ⊢
  unfold k_t3
  dsimp only
  have f3 := s_F_kf (s_F_cgs h8) (k_cc b) b f2
  generalize kf s_cg (k_cc b) b = n1 at f3 ⊢
  have f4 := s_F_kf (s_F_ex h8) (k_mc n1) n1 f3
  generalize kf s_ex (k_mc n1) n1 = n2 at f4 ⊢
  obtain ⟨x1, x2, x3, x4, x5, x6⟩ := f4
  have em : k_mc (nw n2 0 0 3 (n2 0 0 3 + 1)) = k_mc n2 := by unfold k_mc; rw [nw_at, if_neg (by omega)]
  refine ⟨⟨fun m hm => by rw [nw_k (by decide)]; exact x2 m hm, ?_, fun m hm z0 z1 => ?_⟩, fun m hm z => ?_⟩
  · unfold s_cn at x4 ⊢
    rw [nw_k (by decide), s_E_cg (n := n2) (fun m _ _ => by rw [nw_k (by decide)])]; exact x4
  · rw [nw_k (by decide)] at z1
    exact s_P2_mono h8 (x6 m hm z0 z1).2.1 (by rw [nw_k (by decide)]) (fun r _ => by unfold s_V; rw [nw_k (by decide)]; exact Nat.le_refl _)
  · rw [em] at hm; rw [nw_k (by decide)] at z ⊢; exact x3 m hm z
