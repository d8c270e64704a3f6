/-! THE LAW: all that a network keeps in a run, act by act -/
def s_K (n : ch_N) : Prop := ∃ k, n 0 0 3 = nI k ∧ k ≤ 100000 ∧ (∀ c, c < k_cc n → ∃ g, n 1 c 8 = nI g ∧ g ≤ k) ∧ ∃ y, n 7 0 3 = nI y ∧ y ≤ 12 * k
def s_J (B : Nat) (n : ch_N) : Prop := s_A B n ∧ k_G n ∧ o_Q n ∧ s_z n ∧ s_K n
theorem s_J_Snd {B : Nat} {n : ch_N} (h : s_J B n) (hB : B < 2 ^ 31) : o_Snd n := by
  obtain ⟨a, -, -, -, ⟨k, ek, hk, hc, -⟩⟩ := h
  refine s_A_Snd a hB (fun c hc' => ?_)
  obtain ⟨g, eg, hg⟩ := hc c hc'
  rw [ek, eg, nI_ltI (by omega) (by omega)]; omega
theorem s_K_cg {n n' : ch_N} (h : s_K n) (h3 : n' 0 0 3 = n 0 0 3) (hc : k_cc n' = k_cc n) (h1 : ∀ c, n' 1 c 8 = n 1 c 8) (h7 : n' 7 0 3 = n 7 0 3) : s_K n' := by
  obtain ⟨k, ek, hk, hg, y, ey, hy⟩ := h
  exact ⟨k, h3.trans ek, hk, fun c hc' => by rw [h1]; exact hg c (by omega), y, h7.trans ey, hy⟩
theorem s_K_0 {n n' : ch_N} (h : s_K n) (h0 : n' 0 = n 0) (h1 : n' 1 = n 1) (h7 : n' 7 0 3 = n 7 0 3) : s_K n' := s_K_cg h (by rw [h0]) (k_cc_0 h0) (fun c => by rw [h1]) h7
/-! the cells' rows in a tick -/
theorem o1_fin (i : Nat) (n : ch_N) : s_fin i n 1 = n 1 := by
  unfold s_fin
  split
  · rw [k_fin_eq]
    split
    · exact nw_k (by decide)
    · rw [k_cnt_k _ 2 (by decide), k_idle_ne (by decide) (by decide) (by decide)]
  · rfl
theorem o1_dr (i : Nat) (n : ch_N) : s_dr i n 1 = n 1 := by
  unfold s_dr
  split
  · obtain ⟨v, hv⟩ : ∃ v, v = if k_avg n i (n 3 i 5) < n 0 0 8 then n 3 i 7 + 1 else 0 := ⟨_, rfl⟩
    rw [k_dr_eq n i v hv]
    split
    · exact nw_k (by decide)
    · rw [k_cnt_k _ 3 (by decide), k_idle_ne (by decide) (by decide) (by decide)]
  · rfl
theorem o1_ho (n : ch_N) (i : Nat) (t : Int32) : k_ho n i t 1 = n 1 := ho_ne n i t (by decide) (by decide) (by decide) (by decide)
theorem o1_svL (c : Int32) : ∀ (j : Nat) (n : ch_N), k_svL c j n 1 = n 1
  | 0, _ => rfl
  | j + 1, n => by
    show (if k_free n c = true then (if k_qm n c 0 = -1 then n else k_svL c j (k_sv n (k_ix 12 12 (k_qm n c 0)) c)) else n) 1 = n 1
    split
    · split
      · rfl
      · rw [o1_svL c j]
        unfold k_sv
        rw [k_cnt_k _ 6 (by decide)]
        split
        · exact o1_ho _ _ _
        · exact k_beg_ne (by decide) (by decide) (by decide)
    · rfl
theorem o1_c1 (q : ch_N) (i N : Nat) : ∀ (j : Nat) (n : ch_N), (k_c1 q i N j n).2 1 = n 1
  | 0, _ => rfl
  | j + 1, n => by
    unfold k_c1
    split
    · exact o1_ho _ _ _
    · rw [o1_c1 q i N j]; exact k_ref_ne (by decide)
theorem o1_c2 (q : ch_N) (i N : Nat) : ∀ (j : Nat) (n : ch_N), k_c2 q i N j n 1 = n 1
  | 0, _ => rfl
  | j + 1, n => by
    unfold k_c2
    split
    · exact k_mrq_ne (by decide)
    · exact o1_c2 q i N j n
theorem o1_dc : ∀ (N : Nat) (s : ch_N × ch_N), (kf s_dc N s).1 1 = s.1 1
  | 0, _ => rfl
  | N + 1, s => by
    show (s_dc N (kf s_dc N s)).1 1 = _
    have ih := o1_dc N s
    generalize kf s_dc N s = z at ih ⊢
    unfold s_dc
    split
    · refine Eq.trans ?_ ih
      unfold k_ch
      dsimp only
      split
      · exact o1_c1 _ _ _ _ _
      · split
        · exact o1_c1 _ _ _ _ _
        · rw [o1_c2, o1_c1]
    · exact ih
theorem o1_ms (i : Nat) (n : ch_N) : s_ms i n 1 = n 1 := by
  unfold s_ms
  split
  · exact k_msL_k _ _ _ (by decide) (by decide)
  · rfl
theorem o1_t1 (n : ch_N) : k_t1 n 1 = n 1 := by
  unfold k_t1
  rw [show ∀ N m, kf s_sv N m 1 = m 1 from fun N m => kf_kd (fun c n => o1_svL (nI c) 12 n) N m, kf_kd o1_dr, kf_kd o1_fin, kf_kd o1_ms, kf_kd (fun i n => s_mv_ne (by decide))]
theorem o1_ex (i : Nat) (n : ch_N) : s_ex i n 1 = n 1 := by
  unfold s_ex
  split
  · rfl
  · split
    · rfl
    · rw [k_ex_eq]
      split
      · rw [k_cnt_k _ 4 (by decide), k_idle_ne (by decide) (by decide) (by decide), k_cnt_k _ 7 (by decide)]
      · rw [nw_k (by decide), k_cnt_k _ 7 (by decide)]
theorem o1_cg (n : ch_N) : ∀ N c, (kf s_cg N n) 1 c 8 = n 1 c 8 ∨ ((kf s_cg N n) 1 c 8 = n 1 c 8 + 1 ∧ c < N)
  | 0, _ => Or.inl rfl
  | N + 1, c => by
    rw [kf_s]
    have ih := o1_cg n N c
    generalize kf s_cg N n = m at ih ⊢
    unfold s_cg
    split
    · rcases ih with e | ⟨e, h⟩
      · exact Or.inl e
      · exact Or.inr ⟨e, by omega⟩
    · rw [nw_at]
      by_cases g : c = N
      · rw [if_pos ⟨rfl, g, rfl⟩, ← g]
        rcases ih with e | ⟨e, h⟩
        · exact Or.inr ⟨by rw [e], by omega⟩
        · omega
      · rw [if_neg (fun z => g z.2.1)]
        rcases ih with e | ⟨e, h⟩
        · exact Or.inl e
        · exact Or.inr ⟨e, by omega⟩
/-! the count of the dropped -/
theorem d_cnt {n : ch_N} {t : Nat} (h : t ≠ 3) : k_cnt n t 7 0 3 = n 7 0 3 := by unfold k_cnt; rw [nw_at, if_neg (fun z => h z.2.2.symm)]
theorem d_idle (n : ch_N) (i : Nat) : k_idle n i 7 = n 7 := k_idle_ne (by decide) (by decide) (by decide)
theorem d_fin (i : Nat) (n : ch_N) : s_fin i n 7 0 3 = n 7 0 3 := by
  unfold s_fin
  split
  · rw [k_fin_eq]
    split
    · rw [nw_k (by decide)]
    · rw [d_cnt (by decide), d_idle]
  · rfl
theorem d_dr (i : Nat) (n : ch_N) : s_dr i n 7 0 3 = n 7 0 3 ∨ s_dr i n 7 0 3 = n 7 0 3 + 1 := by
  unfold s_dr
  split
  · obtain ⟨v, hv⟩ : ∃ v, v = if k_avg n i (n 3 i 5) < n 0 0 8 then n 3 i 7 + 1 else 0 := ⟨_, rfl⟩
    rw [k_dr_eq n i v hv]
    split
    · exact Or.inl (by rw [nw_k (by decide)])
    · right
      unfold k_cnt
      rw [nw_at, if_pos ⟨rfl, rfl, rfl⟩, d_idle]
  · exact Or.inl rfl
theorem d_ho (n : ch_N) (i : Nat) (t : Int32) : k_ho n i t 7 0 3 = n 7 0 3 := by
  rw [ho_7, if_neg (by decide), if_neg (fun z => absurd z.1 (by decide))]
theorem d_svL (c : Int32) : ∀ (j : Nat) (n : ch_N), k_svL c j n 7 0 3 = n 7 0 3
  | 0, _ => rfl
  | j + 1, n => by
    show (if k_free n c = true then (if k_qm n c 0 = -1 then n else k_svL c j (k_sv n (k_ix 12 12 (k_qm n c 0)) c)) else n) 7 0 3 = n 7 0 3
    split
    · split
      · rfl
      · rw [d_svL c j]
        unfold k_sv
        rw [d_cnt (by decide)]
        split
        · exact d_ho _ _ _
        · rw [k_beg_ne (by decide) (by decide) (by decide)]
    · rfl
theorem d_c1 (q : ch_N) (i N : Nat) : ∀ (j : Nat) (n : ch_N), (k_c1 q i N j n).2 7 0 3 = n 7 0 3
  | 0, _ => rfl
  | j + 1, n => by
    unfold k_c1
    split
    · exact d_ho _ _ _
    · rw [d_c1 q i N j, k_ref_ne (by decide)]
theorem d_c2 (q : ch_N) (i N : Nat) : ∀ (j : Nat) (n : ch_N), k_c2 q i N j n 7 0 3 = n 7 0 3
  | 0, _ => rfl
  | j + 1, n => by
    unfold k_c2
    split
    · rw [k_mrq_ne (by decide)]
    · exact d_c2 q i N j n
theorem d_dc : ∀ (N : Nat) (s : ch_N × ch_N), (kf s_dc N s).1 7 0 3 = s.1 7 0 3
  | 0, _ => rfl
  | N + 1, s => by
    rw [kf_s]
    have ih := d_dc N s
    generalize kf s_dc N s = t at ih ⊢
    rw [← ih]
    unfold s_dc
    split
    · unfold k_ch
      dsimp only
      split
      · exact d_c1 _ _ _ _ _
      · split
        · exact d_c1 _ _ _ _ _
        · exact (d_c2 _ _ _ _ _).trans (d_c1 _ _ _ _ _)
    · rfl
theorem d_ex (i : Nat) (n : ch_N) : s_ex i n 7 0 3 = n 7 0 3 := by
  unfold s_ex
  split
  · rfl
  · split
    · rfl
    · rw [k_ex_eq]
      split
      · rw [d_cnt (by decide), d_idle, d_cnt (by decide)]
      · rw [nw_k (by decide), d_cnt (by decide)]
theorem kf_d {f : Nat → ch_N → ch_N} (hf : ∀ i n, f i n 7 0 3 = n 7 0 3) : ∀ (N : Nat) (n : ch_N), kf f N n 7 0 3 = n 7 0 3
  | 0, _ => rfl
  | N + 1, n => by rw [kf_s, hf, kf_d hf N n]
theorem d_drs {n : ch_N} {y : Nat} (h : n 7 0 3 = nI y) : ∀ N, ∃ z, kf s_dr N n 7 0 3 = nI z ∧ z ≤ y + N
  | 0 => ⟨y, h, Nat.le_refl _⟩
  | N + 1 => by
    obtain ⟨z, e, hz⟩ := d_drs h N
    rw [kf_s]
    rcases d_dr N (kf s_dr N n) with g | g
    · exact ⟨z, g.trans e, by omega⟩
    · exact ⟨z + 1, by rw [g, e, nI_1], by omega⟩
theorem d_ms (i : Nat) (n : ch_N) : s_ms i n 7 0 3 = n 7 0 3 := by
  unfold s_ms
  split
  · unfold k_ms
    rw [k_msL_k _ _ _ (by decide) (by decide)]
  · rfl
theorem d_cg (i : Nat) (n : ch_N) : s_cg i n 7 0 3 = n 7 0 3 := by
  unfold s_cg
  split
  · rfl
  · rw [nw_k (by decide)]
theorem d_tick {n q : ch_N} {y : Nat} (hm : k_mc n ≤ 12) (h : n 7 0 3 = nI y) : ∃ z, (k_tick (n, q)).1 7 0 3 = nI z ∧ z ≤ y + 12 := by
  have t1 : ∃ z, k_t1 n 7 0 3 = nI z ∧ z ≤ y + 12 := by
    unfold k_t1
    have a1 : kf s_mv (k_mc n) n 7 0 3 = nI y := (kf_d (fun i n => by rw [s_mv_ne (by decide)]) _ _).trans h
    have b1 := k_mc_0 (kf_0 k_mv_0 (k_mc n) n)
    generalize kf s_mv (k_mc n) n = n1 at a1 b1 ⊢
    have a2 : kf s_ms (k_mc n1) n1 7 0 3 = nI y := (kf_d d_ms _ _).trans a1
    have b2 := k_mc_0 (kf_0 s_ms_0 (k_mc n1) n1)
    generalize kf s_ms (k_mc n1) n1 = n2 at a2 b2 ⊢
    have a3 : kf s_fin (k_mc n2) n2 7 0 3 = nI y := (kf_d d_fin _ _).trans a2
    have b3 := k_mc_0 (kf_0 s_fin_0 (k_mc n2) n2)
    generalize kf s_fin (k_mc n2) n2 = n3 at a3 b3 ⊢
    obtain ⟨z, a4, hz⟩ := d_drs a3 (k_mc n3)
    generalize kf s_dr (k_mc n3) n3 = n4 at a4 ⊢
    exact ⟨z, (kf_d (fun c n => d_svL (nI c) 12 n) _ _).trans a4, by omega⟩
  obtain ⟨z, e, hz⟩ := t1
  refine ⟨z, ?_, hz⟩
  unfold k_tick
  dsimp only
  generalize k_t1 n = a at e ⊢
  have e5 : (kf s_dc (k_mc a) (a, q)).1 7 0 3 = nI z := (d_dc _ _).trans e
  generalize (kf s_dc (k_mc a) (a, q)).1 = b at e5 ⊢
  unfold k_t3
  rw [nw_k (by decide), kf_d d_ex, kf_d d_cg]
  exact e5
theorem d_su (n : ch_N) (i : Nat) (dd s : Int32) : (k_su n i dd s).2 7 0 3 = n 7 0 3 := by
  unfold k_su
  split
  · split
    · dsimp only
      rw [k_wfs_ne (by decide), nw_k (by decide)]
    · exact d_cnt (t := 4) (by decide)
  · dsimp only
    rw [k_beg_ne (by decide) (by decide) (by decide), nw_k (by decide)]
    split
    · rfl
    · exact d_cnt (t := 5) (by decide)
theorem s_K_tick {n q : ch_N} (h : s_K n) (h12 : k_mc n ≤ 12) (hck : ¬ 100000 < n 0 0 3 + 1) : s_K (k_tick (n, q)).1 := by
  obtain ⟨k, ek, hk, hg, y, ey, hy⟩ := h
  obtain ⟨y', ey', hy'⟩ := d_tick (q := q) h12 ey
  have e3 := k_tick_00 (n, q) 3
  rw [if_pos rfl] at e3
  replace e3 : (k_tick (n, q)).1 0 0 3 = nI (k + 1) := by rw [e3]; show n 0 0 3 + 1 = _; rw [ek, nI_1]
  have ec : k_cc (k_tick (n, q)).1 = k_cc n := by unfold k_cc; rw [k_tick_00, if_neg (by decide)]
  rw [ek, nI_1] at hck
  have hk1 : k + 1 ≤ 100000 := Nat.not_lt.mp (fun z => hck ((nI_ltI (a := 100000) (by decide) (by omega)).mpr z))
  refine ⟨k + 1, e3, hk1, fun c hc => ?_, y', ey', by omega⟩
  rw [ec] at hc
  obtain ⟨g, eg, hgk⟩ := hg c hc
  have e1 : (k_tick (n, q)).1 1 c 8 = n 1 c 8 ∨ (k_tick (n, q)).1 1 c 8 = n 1 c 8 + 1 := by
    unfold k_tick
    dsimp only
    have t1 := o1_t1 n
    generalize k_t1 n = a at t1 ⊢
    have e5 : (kf s_dc (k_mc a) (a, q)).1 1 = n 1 := (o1_dc _ _).trans t1
    generalize (kf s_dc (k_mc a) (a, q)).1 = b at e5 ⊢
    unfold k_t3
    rw [nw_k (by decide), kf_kd o1_ex]
    rcases o1_cg b (k_cc b) c with e | ⟨e, -⟩
    · exact Or.inl (by rw [e, e5])
    · exact Or.inr (by rw [e, e5])
  rcases e1 with e | e
  · exact ⟨g, e.trans eg, by omega⟩
  · exact ⟨g + 1, by rw [e, eg, nI_1], by omega⟩
theorem s_J_tick {B : Nat} {n q : ch_N} (h : s_J B n) (hB : B + 200 < 2 ^ 31) (hck : ¬ 100000 < n 0 0 3 + 1) : s_J (B + 108) (k_tick (n, q)).1 := by
  obtain ⟨a, b, c, d, e⟩ := h
  obtain ⟨k, ek, hk, -⟩ := id e
  exact ⟨s_A_tick a, G_tick (n, q) b, o_Q_tick (by rw [ek]; exact nI_pos (by omega)) (by rw [ek]; exact fun z => absurd ((nI_ltI (a := 100000) (by decide) (by omega)).mp z) (by omega)) c, (s_tick (q := q) hB a d).2, s_K_tick e a.1.1 hck⟩
/-! the other acts -/
theorem s_J_idle {B : Nat} {n : ch_N} (h : s_J B n) (i : Nat) : s_J B (k_idle n i) := by
  obtain ⟨a, b, c, d, e⟩ := h
  have e0 : k_idle n i 0 = n 0 := k_idle_ne (by decide) (by decide) (by decide)
  refine ⟨s_A_idle a i, G_idle b i, o_Q_rl c o_rl_idle, fun m hm z => ?_, s_K_0 e e0 (k_idle_ne (by decide) (by decide) (by decide)) (by rw [d_idle])⟩
  rw [k_mc_0 e0] at hm
  rw [idle_3 n i m 4 (Or.inl rfl)] at z
  rw [idle_3 n i m 8 (Or.inr (Or.inr rfl))]
  by_cases g : m = i
  · rw [if_pos g]; rfl
  · rw [if_neg g] at z ⊢; exact d m hm z
theorem s_J_vel {B : Nat} {n : ch_N} (h : s_J B n) (i : Nat) {x y : Int32} : s_J B (nw (nw n 3 i 2 x) 3 i 3 y) := by
  obtain ⟨a, b, c, d, e⟩ := h
  refine ⟨s_A_3 (s_A_3 a (by decide)) (by decide), G_nw3 (G_nw3 b (by decide) _) (by decide) _, o_Q_rl c (o_rl_tr (o_rl_nw3 (by decide) (by decide)) (o_rl_nw3 (by decide) (by decide))), fun m hm z => ?_, s_K_0 e (by rw [nw_k (by decide), nw_k (by decide)]) (by rw [nw_k (by decide), nw_k (by decide)]) (by rw [nw_k (by decide), nw_k (by decide)])⟩
  rw [k_mc_0 (show nw (nw n 3 i 2 x) 3 i 3 y 0 = n 0 by rw [nw_k (by decide), nw_k (by decide)])] at hm
  have e4 : nw (nw n 3 i 2 x) 3 i 3 y 3 m 4 = n 3 m 4 := by simp [nw_at]
  have e8 : nw (nw n 3 i 2 x) 3 i 3 y 3 m 8 = n 3 m 8 := by simp [nw_at]
  rw [e4] at z; rw [e8]; exact d m hm z
theorem s_J_hys {B r : Nat} {n : ch_N} {v : Int32} (h : s_J B n) (hr : r < 64) (h0 : ¬ v < 0) (h3 : ¬ 30 < v) : s_J B (nw n 2 r 1 v) := by
  obtain ⟨a, b, c, d, e⟩ := h
  have e2 : ∀ q f, nw n 2 r 1 v 2 q f = if q = r ∧ f = 1 then v else n 2 q f := fun q f => by rw [nw_at]; simp only [true_and]
  have e0 : nw n 2 r 1 v 0 = n 0 := nw_k (by decide)
  have ek : ∀ kd, kd ≠ 2 → nw n 2 r 1 v kd = n kd := fun kd hk => nw_k hk
  obtain ⟨a0, a1, a2, a3, a4, a5, a6, a7⟩ := a
  have ec := k_cc_0 e0
  have em := k_mc_0 e0
  have e22 : ∀ q, nw n 2 r 1 v 2 q 2 = n 2 q 2 := fun q => by rw [e2, if_neg (fun z => absurd z.2 (by decide))]
  refine ⟨⟨by rw [ec, em]; exact a0, fun c hc => by rw [ec] at hc; unfold o_T; rw [ek 1 (by decide), ek 3 (by decide), em]; exact a1 c hc, fun c hc => by rw [ec] at hc; unfold o_W; rw [ek 1 (by decide), ek 3 (by decide), em]; exact a2 c hc, by rw [ec, s_sa_cg e22 ec, ek 7 (by decide)]; exact a3, by rw [ek 7 (by decide)]; exact a4, fun q hq => by rw [e22]; exact a5 q hq, fun i hi => by rw [em] at hi; rw [ek 3 (by decide), ec]; exact a6 i hi, fun q hq => ?_⟩, ⟨fun m hm => by rw [ek 3 (by decide)]; exact b.1 m hm, fun q hq => ?_⟩, o_Q_rl c (o_rl_o (by decide) (by decide)), fun m hm z => by rw [em] at hm; rw [ek 3 (by decide)] at z ⊢; exact d m hm z, s_K_0 e e0 (ek 1 (by decide)) (by rw [ek 7 (by decide)])⟩
  · rw [e2]; split
    · exact h3
    · exact a7 q hq
  · rw [e2]; split
    · exact h0
    · exact b.2 q hq
theorem s_J_su {B : Nat} {n : ch_N} (h : s_J B n) (i : Nat) (dd : Int32) {s : Nat} (hs : s < k_cc n) : s_J (B + 1) (k_su n i dd (nI s)).2 := by
  obtain ⟨a, b, c, d, e⟩ := h
  have key : o_rl n (k_su n i dd (nI s)).2 ∧ s_z (k_su n i dd (nI s)).2 ∧ (k_su n i dd (nI s)).2 0 = n 0 ∧ (k_su n i dd (nI s)).2 1 = n 1 := by
    unfold k_su
    split
    · split
      · dsimp only
        refine ⟨?_, fun m hm z => ?_, by rw [k_wfs_ne (by decide), nw_k (by decide)], by rw [k_wfs_ne (by decide), nw_k (by decide)]⟩
        · unfold k_wfs
          refine o_rl_tr (o_rl_nw3 (i := i) (f := 6) (v := dd) (by decide) (by decide)) (o_rl_tr (o_rl_nw3 (i := i) (f := 4) (v := 2) (by decide) (by decide)) ?_)
          have := o_rl_mrq (n := nw (nw n 3 i 6 dd) 3 i 4 2) (i := i) (c := nI s)
          rw [nw_k (show (0 : Nat) ≠ 3 by decide)] at this
          exact this
        · have e3 : ∀ f, f = 4 ∨ f = 8 → k_wfs (nw n 3 i 6 dd) i (nI s) (nw n 3 i 6 dd 0 0 3) 3 m f = if m = i then (if f = 4 then 2 else nI s) else n 3 m f := fun f hf => by
            unfold k_wfs k_mrq
            rcases hf with rfl | rfl <;> by_cases g : m = i <;> simp [nw_at, g]
          rw [k_mc_0 (show k_wfs (nw n 3 i 6 dd) i (nI s) (nw n 3 i 6 dd 0 0 3) 0 = n 0 by rw [k_wfs_ne (by decide), nw_k (by decide)])] at hm
          rw [e3 4 (Or.inl rfl)] at z
          rw [e3 8 (Or.inr rfl)]
          by_cases g : m = i
          · rw [if_pos g, if_pos rfl] at z; exact absurd z (by decide)
          · rw [if_neg g] at z ⊢; exact d m hm z
      · dsimp only
        exact ⟨o_rl_cnt, fun m hm z => by rw [k_cnt_3] at z ⊢; rw [k_mc_0 (k_cnt_0 n 4)] at hm; exact d m hm z, k_cnt_0 n 4, k_cnt_k n 4 (by decide)⟩
    · dsimp only
      have h1 : o_rl n (if k_suc n i (nI s) = nI s then n else k_cnt n 5) ∧ s_z (if k_suc n i (nI s) = nI s then n else k_cnt n 5) ∧ (if k_suc n i (nI s) = nI s then n else k_cnt n 5) 0 = n 0 ∧ (if k_suc n i (nI s) = nI s then n else k_cnt n 5) 1 = n 1 := by
        split
        · exact ⟨o_rl_0, d, rfl, rfl⟩
        · exact ⟨o_rl_cnt, fun m hm z => by rw [k_cnt_3] at z ⊢; rw [k_mc_0 (k_cnt_0 n 5)] at hm; exact d m hm z, k_cnt_0 n 5, k_cnt_k n 5 (by decide)⟩
      generalize (if k_suc n i (nI s) = nI s then n else k_cnt n 5) = n1 at h1 ⊢
      obtain ⟨r1, z1, q0, q1⟩ := h1
      have w0 : k_beg (nw n1 3 i 6 dd) i (k_suc n i (nI s)) 0 = n1 0 := by rw [k_beg_ne (by decide) (by decide) (by decide), nw_k (by decide)]
      refine ⟨o_rl_tr r1 (o_rl_tr (o_rl_nw3 (i := i) (f := 6) (v := dd) (by decide) (by decide)) (o_rl_beg _ _ _)), fun m hm z => ?_, w0.trans q0, by rw [k_beg_ne (by decide) (by decide) (by decide), nw_k (by decide)]; exact q1⟩
      rw [k_mc_0 w0] at hm
      rw [beg_3 _ i m 4 _ (Or.inl rfl)] at z
      rw [beg_3 _ i m 8 _ (Or.inr (Or.inr rfl))]
      by_cases g : m = i
      · rw [if_pos g, if_pos rfl] at z; exact absurd z (by decide)
      · rw [if_neg g] at z ⊢
        have e4 : nw n1 3 i 6 dd 3 m 4 = n1 3 m 4 := by simp [nw_at]
        have e8 : nw n1 3 i 6 dd 3 m 8 = n1 3 m 8 := by simp [nw_at]
        rw [e4] at z; rw [e8]; exact z1 m hm z
  exact ⟨s_A_su a i dd hs, G_su b i dd (nI s), o_Q_rl c key.1, key.2.1, s_K_0 e key.2.2.1 key.2.2.2 (d_su n i dd (nI s))⟩
