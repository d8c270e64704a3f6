/-! THE LAW'S OWN MODEL: a step -/
theorem o_cl1 {v : Int32} (h : v < 0) : k_max 0 (k_min 999 v) = 0 := by
  have h9 : v < 999 := Int32.lt_trans h (by decide)
  unfold k_max k_min
  rw [if_pos h9, if_neg (fun z => Int32.lt_irrefl (Int32.lt_trans h z))]
theorem o_cl2 {v : Int32} (h : 999 < v) : k_max 0 (k_min 999 v) = 999 := by
  unfold k_max k_min
  rw [if_neg (fun z => Int32.lt_irrefl (Int32.lt_trans h z)), if_pos (by decide)]
theorem o_cl3 {v : Int32} (h : ¬ v < 0) (h2 : ¬ 999 < v) : k_max 0 (k_min 999 v) = v := by
  have e : k_min 999 v = v := by
    unfold k_min
    by_cases g : v < 999
    · rw [if_pos g]
    · rw [if_neg g]; exact Int32.le_antisymm (Int32.not_lt.mp g) (Int32.not_lt.mp h2)
  rw [e]
  unfold k_max
  by_cases g : 0 < v
  · rw [if_pos g]
  · rw [if_neg g]; exact Int32.le_antisymm (Int32.not_lt.mp h) (Int32.not_lt.mp g)
theorem s_mv_ne {n : ch_N} {i kd : Nat} (h : kd ≠ 3) : s_mv i n kd = n kd := by
  unfold s_mv k_mv
  rw [nw_k h, nw_k h]
theorem kf_kd {kd : Nat} {f : Nat → ch_N → ch_N} (hf : ∀ i n, (f i n) kd = n kd) : ∀ (N : Nat) (n : ch_N), (kf f N n) kd = n kd
  | 0, _ => rfl
  | N + 1, n => (hf N _).trans (kf_kd hf N n)
theorem s_ms_2 (i : Nat) (n : ch_N) : (s_ms i n) 2 = n 2 := by
  unfold s_ms
  split
  · exact k_msL_k _ _ _ (by decide) (by decide)
  · rfl
theorem k_add_ne {n : ch_N} {i c W kd : Nat} {v : Int32} (h4 : kd ≠ 4) (h5 : kd ≠ 5) : k_add n i c v W kd = n kd := by
  unfold k_add k_drp
  split
  · rw [nw_k h5, nw_k h4]
  · rw [nw_k h5, nw_k h4, na_k h4]
theorem k_crp_ne {n : ch_N} {i kd : Nat} {x : Int32} (h5 : kd ≠ 5) : k_crp n i x kd = n kd := by
  unfold k_crp
  split
  · rfl
  · split
    · exact nw_k h5
    · rfl
theorem o_NW_fr {n : ch_N} {w : Nat → Int32} {S S' : ch_S} {μ μ' : ch_M} (h : o_NW n w S μ) (f : o_fr S μ S' μ') (e16 : μ' 16 = μ 16) (er : S'.2.2 16 = S.2.2 16) (hF : ∃ F, ∀ kd i, F ≤ i → ¬ S'.2.1 18 kd i) : o_NW n w S' μ' := by
  refine o_NW_mk (o_St_fr h.st f hF) rfl rfl h.rn ⟨fun j hj => by rw [e16]; exact h.R.1 j hj, fun m hm => ?_⟩ ?_
  · obtain ⟨h1, h2, h3⟩ := h.R.2 m hm
    refine ⟨fun f hf => by rw [e16]; exact h1 f hf, fun c hc => by rw [e16]; exact h2 c hc, fun c hc => ?_⟩
    obtain ⟨N, id, g1, g2, g3, g4, g5⟩ := h3 c hc
    obtain ⟨q1, q2, q3⟩ := f.2.2 _ _ g3
    exact ⟨N, id, g1, g2, q1, by rw [er, q2]; exact g4, fun t ht => by rw [q3]; exact g5 t ht⟩
  · obtain ⟨h1, h2, h3, h4⟩ := h.A
    unfold o_A
    rw [e16]
    exact ⟨h1, h2, h3, h4⟩
/-- a mobile's report of a cell made anew -/
theorem o_msr {n n' : ch_N} {w w' : Nat → Int32} {S S1 S2 : ch_S} {μ μ1 μ2 : ch_M} {m c N F : Nat} (hN : o_NW n w S μ) (hc : c < 8) (hN8 : N ≤ 8) (hF : ∀ kd i, F ≤ i → ¬ S.2.1 18 kd i) (hw : o_nw 18 (N + 40) F S μ S1 μ1)
    (hm : ∀ a b d, ¬ (a = 18 ∧ b = N + 40 ∧ d = F) → μ2 a b d = μ1 a b d) (hr : o_rfd 16 24 (8 + m) c (S1.1 18 (N + 40) F) S1 S2) (hn : ∀ kd, kd ≠ 4 → kd ≠ 5 → n' kd = n kd) (hrn : r_N n' w') (h5 : w' (210 + 91 * m + (19 + c)) = nI N)
    (ht : ∀ t, t < N → μ2 18 (N + 40) F t = w' (210 + 91 * m + (27 + 8 * c + t))) (hwo : ∀ i, i ≠ 210 + 91 * m + (19 + c) → (∀ t, t < 8 → i ≠ 210 + 91 * m + (27 + 8 * c + t)) → w' i = w i) : o_fr S μ S2 μ2 ∧ o_NW n' w' S2 μ2 := by
  have f1 : o_fr S μ S1 μ1 := o_fr_nw18 hw (hF _ _ (Nat.le_refl _))
  have f2 : o_fr S μ S1 μ2 := by
    refine ⟨fun k a b c d e => ?_, f1.2.1, fun kd i z => ?_⟩
    · have q := f1.1 k a b c d e
      rw [show μ2 k = μ1 k from by funext x y; exact hm k x y (fun z => c z.1)]
      exact q
    · have q := f1.2.2 kd i z
      exact ⟨q.1, q.2.1, (hm 18 kd i (fun y => hF kd i (by omega) z)).trans q.2.2⟩
  have f3 : o_fr S μ S2 μ2 := o_fr_tr f2 (o_fr_rf (μ := μ2) hr (by omega))
  have h16 : μ2 16 = μ 16 := by
    funext b d
    rw [hm 16 b d (by omega), o_nw_m hw (by decide)]
  have hst := o_St_fr hN.st f3 (by rw [hr.2.1]; exact o_F_nw hw hF (Nat.le_refl _))
  have hc8 := hN.c8
  refine ⟨f3, o_NW_mk hst (k_cc_0 (hn 0 (by decide) (by decide))) (k_mc_0 (hn 0 (by decide) (by decide))) hrn ?_ ?_⟩
  · exact o_R_rp (w := w) (m := m) (c := c) (N := N) (id := F) hN.R hc hN8 (fun kd i z => f3.2.2 kd i z) (fun m' c' e => by rw [hr.2.2.2 _ _ _ _ (by omega), o_nw_r hw (by decide)]) (by rw [hr.2.1]; exact hw.1) (by rw [hr.2.2.1, hr.1]) h16 h5 ht hwo
  · have ec := k_cc_0 (hn 0 (by decide) (by decide))
    exact o_A_m (o_A_n hN.A (hn 1 (by decide) (by decide)) (hn 2 (by decide) (by decide)) (hn 7 (by decide) (by decide)) ec) (by rw [ec]; exact hc8) (fun i _ => by rw [h16])
theorem o_msA {n : ch_N} {w : Nat → Int32} {m c L W N : Nat} {v : Int32} {val : Nat → Int32} (h : r_N n w) (hm : m < k_mc n) (ht : n 3 m 4 = 1) (hc : c < 8) (hv : ¬ v < 0 ∧ ¬ 99 < v) (e5 : n 5 m c = nI L) (eW : n 0 0 4 = nI W) (hW : W ≤ 8) (hW1 : 1 ≤ W) (hLW : L ≤ W) (hNe : N = if L < W then L + 1 else W)
    (h1 : ∀ t, t < N - 1 → val t = w (210 + 91 * m + (27 + 8 * c + (L - (N - 1) + t)))) (h2 : val (N - 1) = v) : ∃ w', r_N (k_add n m c v (Int32.toNatClampNeg (n 0 0 4))) w' ∧ w' (210 + 91 * m + (19 + c)) = nI N ∧ (∀ t, t < N → val t = w' (210 + 91 * m + (27 + 8 * c + t))) ∧ (∀ i, i ≠ 210 + 91 * m + (19 + c) → (∀ t, t < 8 → i ≠ 210 + 91 * m + (27 + 8 * c + t)) → w' i = w i) := by
  obtain ⟨A, B⟩ := r_N_add h hm ht hc hv e5 eW hW hLW
  by_cases g : L < W
  · rw [if_pos g] at hNe
    subst hNe
    refine ⟨_, A g, up_s _ _ _, fun t htN => ?_, fun i i1 i2 => ?_⟩
    · rw [up_n (by omega)]
      by_cases e : t = L
      · subst e; rw [up_s, ← h2]; rfl
      · rw [up_n (by omega), h1 t (by omega)]; congr 1; omega
    · rw [up_n i1, up_n (i2 L (by omega))]
  · rw [if_neg g] at hNe
    obtain ⟨p, hp⟩ : ∃ p, L = p + 1 := ⟨L - 1, by omega⟩
    have eNp : N = p + 1 := by omega
    subst eNp
    refine ⟨_, B p hp (by omega), up_s _ _ _, fun t htN => ?_, fun i i1 i2 => ?_⟩
    · rw [up_n (by omega)]
      by_cases e : t = p
      · subst e; rw [up_s, ← h2]; rfl
      · rw [up_n (by omega), h1 t (by omega)]
        unfold r_sh
        rw [if_pos (by omega)]
        congr 1; omega
    · rw [up_n i1, up_n (i2 p (by omega))]
      unfold r_sh
      rw [if_neg (fun z => i2 (i - (210 + 91 * m + (27 + 8 * c))) (by omega) (by omega))]
theorem o_win {n : ch_N} {w : Nat → Int32} (h : r_N n w) : ∃ W, n 0 0 4 = nI W ∧ 1 ≤ W ∧ W ≤ 8 ∧ ∀ i c L, i < k_mc n → c < 8 → n 5 i c = nI L → L ≤ 8 → L ≤ W := by
  obtain ⟨a1, a2, a3, a4, a5, a6⟩ := h.2.2.2.2.2
  obtain ⟨W, hW, eW⟩ := nI_of a3
  rw [eW, nI_clamp (by omega)] at a4 a5
  refine ⟨W, eW, a4, a5, fun i c L hi hc e5 hL => ?_⟩
  have g := (a6 i c (by omega) hc).2.2 hi
  rw [e5, eW, nI_clamp (by omega), nI_clamp (by omega)] at g
  exact g
theorem o_min {L W N : Nat} (hNe : N = if L < W then L + 1 else W) (hL : L ≤ W) (hW : W ≤ 8) : (if nI L + 1 < nI W then nI L + 1 else nI W) = nI N := by
  rw [nI_1]
  by_cases g : L + 1 < W
  · rw [if_pos ((nI_ltI (by omega) (by omega)).mpr g), hNe, if_pos (by omega)]
  · rw [if_neg (fun z => g ((nI_ltI (by omega) (by omega)).mp z)), hNe]
    split
    · congr 1; omega
    · rfl
theorem o_pr {N : Nat} (h : 1 ≤ N) : nI N - 1 = nI (N - 1) := by
  obtain ⟨p, rfl⟩ : ∃ p, N = p + 1 := ⟨N - 1, by omega⟩
  rw [nI_pred]; rfl
theorem o_xy {n : ch_N} {w : Nat → Int32} (h : r_N n w) {m : Nat} (hm : m < k_mc n) : (¬ n 3 m 0 < 0 ∧ ¬ 999 < n 3 m 0) ∧ (¬ n 3 m 1 < 0 ∧ ¬ 999 < n 3 m 1) := by
  obtain ⟨a1, a2, a3, a4, a5, a6, a7, a8, a9, a10, a11, a12, a13, a14⟩ := h.2.2.2.2.1 m hm
  exact ⟨⟨a13.1, a13.2.1⟩, a13.2.2⟩
theorem o_lft {n : ch_N} {w : Nat → Int32} (h : r_N n w) {m : Nat} (hm : m < k_mc n) (ht : ¬ n 3 m 4 = 0) : 0 < n 3 m 6 := by
  obtain ⟨a1, a2, a3, a4, a5, a6, a7, a8, a9, a10, a11, a12, a13, a14⟩ := h.2.2.2.2.1 m hm
  exact a11 ht
/-- ends, after a word was written that it writes too -/
theorem o_endw {w w1 : Nat → Int32} {m f : Nat} {y : Int32} (hf : f = 6 ∨ f = 8) (e : ∀ i, i < 10 ∨ 210 ≤ i → w1 i = w i) (i : Nat) (hi : i < 10 ∨ 210 ≤ i) : r_end w1 m i = up (up (up (up (up w (210 + 91 * m + f) y) (210 + 91 * m + 4) 0) (210 + 91 * m + 5) (-1)) (210 + 91 * m + 6) 0) (210 + 91 * m + 8) (-1) i := by
  have e' := e i hi
  unfold r_end r_wd
  by_cases h8 : i = 210 + 91 * m + 8
  · subst h8; rw [up_s, up_s]
  rw [up_n h8, up_n h8]
  by_cases h6 : i = 210 + 91 * m + 6
  · subst h6; rw [up_s, up_s]
  rw [up_n h6, up_n h6]
  by_cases h5 : i = 210 + 91 * m + 5
  · subst h5; rw [up_s, up_s]
  rw [up_n h5, up_n h5]
  by_cases h4 : i = 210 + 91 * m + 4
  · subst h4; rw [up_s, up_s]
  rw [up_n h4, up_n h4, up_n (by rcases hf with rfl | rfl <;> omega)]
  exact e'
/-! requests and their ages -/
def o_Q (n : ch_N) : Prop := ∃ Q, Q ≤ 40 ∧ n 0 0 7 = nI Q ∧ ∀ m, m < k_mc n → ¬ n 3 m 8 = -1 → ∃ a, a ≤ Q ∧ n 0 0 3 - n 3 m 9 = nI a
theorem o_Q.age {n : ch_N} (h : o_Q n) : o_age n := by
  obtain ⟨Q, h1, h2, h3⟩ := h
  exact fun m hm h8 => by obtain ⟨a, ha, e⟩ := h3 m hm h8; exact ⟨a, by omega, e⟩
def o_rl (n n' : ch_N) : Prop := n' 0 = n 0 ∧ ∀ m, n' 3 m 8 = -1 ∨ n' 3 m 9 = n 0 0 3 ∨ (n' 3 m 8 = n 3 m 8 ∧ n' 3 m 9 = n 3 m 9)
theorem o_rl_0 {n : ch_N} : o_rl n n := ⟨rfl, fun _ => Or.inr (Or.inr ⟨rfl, rfl⟩)⟩
theorem o_rl_tr {a b c : ch_N} (h : o_rl a b) (g : o_rl b c) : o_rl a c := by
  refine ⟨g.1.trans h.1, fun m => ?_⟩
  rcases g.2 m with z | z | ⟨z1, z2⟩
  · exact Or.inl z
  · exact Or.inr (Or.inl (by rw [z, h.1]))
  · rcases h.2 m with y | y | ⟨y1, y2⟩
    · exact Or.inl (z1.trans y)
    · exact Or.inr (Or.inl (z2.trans y))
    · exact Or.inr (Or.inr ⟨z1.trans y1, z2.trans y2⟩)
theorem o_Q_rl {n n' : ch_N} (h : o_Q n) (r : o_rl n n') : o_Q n' := by
  obtain ⟨Q, h1, h2, h3⟩ := h
  refine ⟨Q, h1, by rw [r.1]; exact h2, fun m hm h8 => ?_⟩
  rw [r.1]
  rw [k_mc_0 r.1] at hm
  rcases r.2 m with z | z | ⟨z1, z2⟩
  · exact absurd z h8
  · exact ⟨0, Nat.zero_le _, by rw [z, Int32.sub_self]; rfl⟩
  · rw [z1] at h8; rw [z2]; exact h3 m hm h8
theorem o_rl_3 {n n' : ch_N} (h0 : n' 0 = n 0) (h3 : n' 3 = n 3) : o_rl n n' := ⟨h0, fun m => Or.inr (Or.inr ⟨by rw [h3], by rw [h3]⟩)⟩
theorem o_rl_nw3 {n : ch_N} {i f : Nat} {v : Int32} (h8 : f ≠ 8) (h9 : f ≠ 9) : o_rl n (nw n 3 i f v) := ⟨nw_k (by decide), fun m => Or.inr (Or.inr ⟨by rw [nw_at, if_neg (fun z => h8 z.2.2.symm)], by rw [nw_at, if_neg (fun z => h9 z.2.2.symm)]⟩)⟩
theorem o_rl_8 {n : ch_N} {i : Nat} : o_rl n (nw n 3 i 8 (-1)) := by
  refine ⟨nw_k (by decide), fun m => ?_⟩
  by_cases e : m = i
  · subst e; exact Or.inl (by rw [nw_at, if_pos ⟨rfl, rfl, rfl⟩])
  · exact Or.inr (Or.inr ⟨by rw [nw_at, if_neg (fun z => e z.2.1)], by rw [nw_at, if_neg (fun z => e z.2.1)]⟩)
theorem o_rl_o {n : ch_N} {k i f : Nat} {v : Int32} (h0 : 0 ≠ k) (h3 : 3 ≠ k) : o_rl n (nw n k i f v) := o_rl_3 (nw_k h0) (nw_k h3)
theorem o_rl_clr {n : ch_N} {i : Nat} : o_rl n (k_clr n i) := by
  unfold k_clr
  exact o_rl_3 (by rw [na_k (by decide), na_k (by decide)]) (by rw [na_k (by decide), na_k (by decide)])
theorem o_rl_idle {n : ch_N} {i : Nat} : o_rl n (k_idle n i) := by
  unfold k_idle
  refine o_rl_tr ?_ o_rl_clr
  refine ⟨by rw [nw_k (by decide), nw_k (by decide), nw_k (by decide), nw_k (by decide), nw_k (by decide), nw_k (by decide)], fun m => ?_⟩
  by_cases e : m = i
  · subst e; exact Or.inl (by rw [nw_at, if_neg (by omega), nw_at, if_pos ⟨rfl, rfl, rfl⟩])
  · have g : ∀ {q : ch_N} {f g : Nat} {v : Int32}, nw q 3 i f v 3 m g = q 3 m g := fun {q f g v} => by rw [nw_at, if_neg (fun z => e z.2.1)]
    exact Or.inr (Or.inr ⟨by rw [g, g, g, g, g, g], by rw [g, g, g, g, g, g]⟩)
theorem o_rl_cnt {n : ch_N} {t : Nat} : o_rl n (k_cnt n t) := o_rl_o (by decide) (by decide)
theorem o_rl_mv (i : Nat) (n : ch_N) : o_rl n (s_mv i n) := by
  unfold s_mv k_mv
  exact o_rl_tr (o_rl_nw3 (by decide) (by decide)) (o_rl_nw3 (by decide) (by decide))
theorem o_rl_ms (i : Nat) (n : ch_N) : o_rl n (s_ms i n) := by
  unfold s_ms
  split
  · exact o_rl_3 (k_msL_k _ _ _ (by decide) (by decide)) (k_msL_k _ _ _ (by decide) (by decide))
  · exact o_rl_0
theorem o_rl_fin (i : Nat) (n : ch_N) : o_rl n (s_fin i n) := by
  unfold s_fin
  split
  · rw [k_fin_eq]
    split
    · exact o_rl_nw3 (by decide) (by decide)
    · exact o_rl_tr o_rl_idle o_rl_cnt
  · exact o_rl_0
theorem o_rl_dr (i : Nat) (n : ch_N) : o_rl n (s_dr i n) := by
  unfold s_dr
  split
  · obtain ⟨v, hv⟩ : ∃ v, v = if k_avg n i (n 3 i 5) < n 0 0 8 then n 3 i 7 + 1 else 0 := ⟨_, rfl⟩
    rw [k_dr_eq n i v hv]
    split
    · exact o_rl_nw3 (by decide) (by decide)
    · exact o_rl_tr o_rl_idle o_rl_cnt
  · exact o_rl_0
theorem o_rl_bar {n : ch_N} {i : Nat} {x t : Int32} : o_rl n (k_bar n i x t) := by
  unfold k_bar
  split
  · exact o_rl_0
  · split
    · exact o_rl_o (by decide) (by decide)
    · exact o_rl_0
theorem o_rl_ho (n : ch_N) (i : Nat) (t : Int32) : o_rl n (k_ho n i t) := by
  unfold k_ho
  dsimp only
  refine o_rl_tr ?_ o_rl_cnt
  refine o_rl_tr ?_ (o_rl_o (by decide) (by decide))
  refine o_rl_tr ?_ o_rl_8
  refine o_rl_tr ?_ (o_rl_nw3 (by decide) (by decide))
  refine o_rl_tr ?_ (o_rl_nw3 (by decide) (by decide))
  refine o_rl_tr ?_ o_rl_bar
  split
  · exact o_rl_cnt
  · exact o_rl_0
theorem o_rl_beg (n : ch_N) (i : Nat) (c : Int32) : o_rl n (k_beg n i c) := by
  unfold k_beg
  exact o_rl_tr (o_rl_tr (o_rl_tr (o_rl_tr (o_rl_nw3 (by decide) (by decide)) (o_rl_nw3 (by decide) (by decide))) (o_rl_nw3 (by decide) (by decide))) o_rl_8) o_rl_clr
theorem o_rl_sv (n : ch_N) (i : Nat) (c : Int32) : o_rl n (k_sv n i c) := by
  unfold k_sv
  refine o_rl_tr ?_ o_rl_cnt
  split
  · exact o_rl_ho _ _ _
  · exact o_rl_beg _ _ _
theorem o_rl_svL (c : Int32) : ∀ (j : Nat) (n : ch_N), o_rl n (k_svL c j n)
  | 0, _ => o_rl_0
  | j + 1, n => by
    show o_rl n (if k_free n c = true then (if k_qm n c 0 = -1 then n else k_svL c j (k_sv n (k_ix 12 12 (k_qm n c 0)) c)) else n)
    split
    · split
      · exact o_rl_0
      · exact o_rl_tr (o_rl_sv _ _ _) (o_rl_svL c j _)
    · exact o_rl_0
theorem o_rl_mrq {n : ch_N} {i : Nat} {c : Int32} : o_rl n (k_mrq n i c (n 0 0 3)) := by
  refine ⟨k_mrq_ne (by decide), fun m => ?_⟩
  unfold k_mrq
  by_cases e : m = i
  · subst e; exact Or.inr (Or.inl (by rw [nw_at, if_pos ⟨rfl, rfl, rfl⟩]))
  · exact Or.inr (Or.inr ⟨by rw [nw_at, if_neg (fun z => e z.2.1), nw_at, if_neg (fun z => e z.2.1)], by rw [nw_at, if_neg (fun z => e z.2.1), nw_at, if_neg (fun z => e z.2.1)]⟩)
theorem o_rl_c1 (q : ch_N) (i N : Nat) : ∀ (j : Nat) (n : ch_N), o_rl n (k_c1 q i N j n).2
  | 0, _ => o_rl_0
  | j + 1, n => by
    unfold k_c1
    split
    · exact o_rl_ho _ _ _
    · exact o_rl_tr (by unfold k_ref; exact o_rl_o (by decide) (by decide)) (o_rl_c1 q i N j _)
theorem o_rl_c2 (q : ch_N) (i N : Nat) : ∀ (j : Nat) (n : ch_N), o_rl n (k_c2 q i N j n)
  | 0, _ => o_rl_0
  | j + 1, n => by
    unfold k_c2
    split
    · exact o_rl_mrq
    · exact o_rl_c2 q i N j _
theorem o_rl_ch (n q : ch_N) (i : Nat) : o_rl n (k_ch n q i).1 := by
  unfold k_ch
  dsimp only
  split
  · exact o_rl_c1 _ _ _ _ _
  · split
    · exact o_rl_c1 _ _ _ _ _
    · exact o_rl_tr (o_rl_c1 _ _ _ _ _) (o_rl_c2 _ _ _ _ _)
theorem o_rl_kf {f : Nat → ch_N → ch_N} (hf : ∀ i n, o_rl n (f i n)) : ∀ (N : Nat) (n : ch_N), o_rl n (kf f N n)
  | 0, _ => o_rl_0
  | N + 1, n => o_rl_tr (o_rl_kf hf N n) (hf N _)
theorem o_rl_dc : ∀ (N : Nat) (s : ch_N × ch_N), o_rl s.1 (kf s_dc N s).1
  | 0, _ => o_rl_0
  | N + 1, s => o_rl_tr (o_rl_dc N s) (by
    show o_rl _ (s_dc N (kf s_dc N s)).1
    unfold s_dc
    split
    · exact o_rl_ch _ _ _
    · exact o_rl_0)
theorem o_rl_cg (c : Nat) (n : ch_N) : o_rl n (s_cg c n) := by
  unfold s_cg
  split
  · exact o_rl_0
  · exact o_rl_o (by decide) (by decide)
theorem o_rl_ex (i : Nat) (n : ch_N) : o_rl n (s_ex i n) := by
  unfold s_ex
  split
  · exact o_rl_0
  · split
    · exact o_rl_0
    · rw [k_ex_eq]
      split
      · exact o_rl_tr o_rl_cnt (o_rl_tr o_rl_idle o_rl_cnt)
      · exact o_rl_tr o_rl_cnt o_rl_8
theorem o_rl_t1 (n : ch_N) : o_rl n (k_t1 n) := by
  unfold k_t1
  dsimp only
  exact o_rl_tr (o_rl_tr (o_rl_tr (o_rl_tr (o_rl_kf o_rl_mv _ _) (o_rl_kf o_rl_ms _ _)) (o_rl_kf o_rl_fin _ _)) (o_rl_kf o_rl_dr _ _)) (o_rl_kf (fun c n => o_rl_svL (nI c) 12 n) _ _)
/-- what waits too long is gone -/
theorem o_ex_8 {n : ch_N} {i m : Nat} : (s_ex i n) 3 m 8 = -1 ∨ ((s_ex i n) 3 m 8 = n 3 m 8 ∧ (s_ex i n) 3 m 9 = n 3 m 9 ∧ (m = i → n 0 0 3 < n 3 i 9 + n 0 0 7)) := by
  unfold s_ex
  by_cases h8 : n 3 i 8 = -1
  · rw [if_pos h8]
    by_cases e : m = i
    · subst e; exact Or.inl h8
    · exact Or.inr ⟨rfl, rfl, fun z => absurd z e⟩
  · rw [if_neg h8]
    by_cases h9 : n 0 0 3 < n 3 i 9 + n 0 0 7
    · rw [if_pos h9]; exact Or.inr ⟨rfl, rfl, fun _ => h9⟩
    · rw [if_neg h9, k_ex_eq]
      by_cases e : m = i
      · subst e
        split
        · refine Or.inl ?_
          rw [k_cnt_3]
          unfold k_idle k_clr
          rw [na_k (by decide), na_k (by decide), nw_at, if_neg (by omega), nw_at, if_pos ⟨rfl, rfl, rfl⟩]
        · exact Or.inl (by rw [nw_at, if_pos ⟨rfl, rfl, rfl⟩])
      · have g : ∀ {q : ch_N} {f g : Nat} {v : Int32}, nw q 3 i f v 3 m g = q 3 m g := fun {q f g v} => by rw [nw_at, if_neg (fun z => e z.2.1)]
        split
        · refine Or.inr ⟨?_, ?_, fun z => absurd z e⟩ <;> (rw [k_cnt_3]; unfold k_idle k_clr; rw [na_k (by decide), na_k (by decide), g, g, g, g, g, g, k_cnt_3])
        · refine Or.inr ⟨?_, ?_, fun z => absurd z e⟩ <;> rw [g, k_cnt_3]
theorem o_ag1 {x t : Int32} {a Q : Nat} (h0 : ¬ x < 0) (h5 : ¬ 100000 < x) (ha : a ≤ Q) (hQ : Q ≤ 40) (e : x - t = nI a) (hl : x < t + nI Q) : a + 1 ≤ Q := by
  obtain ⟨C, hC, rfl⟩ := nI_of h0
  have hC2 : C ≤ 100000 := Nat.not_lt.mp (fun z => h5 ((nI_ltI (by decide) hC).mpr z))
  have h1 : t = nI C - nI a := by
    have h2 : nI C = t + nI a := by rw [← e, Int32.add_comm, Int32.sub_add_cancel]
    rw [h2, Int32.add_sub_cancel]
  have e2 : t + nI Q = nI (C + Q - a) := by
    have : nI C - nI a + nI Q = nI C + nI Q - nI a := by
      rw [Int32.sub_eq_add_neg, Int32.sub_eq_add_neg, Int32.add_assoc, Int32.add_comm (-nI a), ← Int32.add_assoc]
    rw [h1, this, nI_add, pk_sub (by omega)]
  rw [e2] at hl
  have := (nI_ltI (by omega) (by omega)).mp hl
  omega
theorem o_Q_t3 {n : ch_N} (h0 : ¬ n 0 0 3 < 0) (h5 : ¬ 100000 < n 0 0 3) (h : o_Q n) : o_Q (k_t3 n) := by
  have h1 := o_Q_rl h (o_rl_kf o_rl_cg (k_cc n) n)
  unfold k_t3
  dsimp only
  have z0 := kf_0 s_cg_0 (k_cc n) n
  generalize kf s_cg (k_cc n) n = n1 at h1 z0 ⊢
  rw [← z0] at h0 h5
  obtain ⟨Q, hQ, eQ, hA⟩ := h1
  have key : ∀ J, (kf s_ex J n1) 0 = n1 0 ∧ ∀ m, m < k_mc n1 → ¬ (kf s_ex J n1) 3 m 8 = -1 → ∃ a, a ≤ Q ∧ n1 0 0 3 - (kf s_ex J n1) 3 m 9 = nI a ∧ (m < J → a + 1 ≤ Q) := by
    intro J
    induction J with
    | zero => exact ⟨rfl, fun m hm h8 => by obtain ⟨a, ha, e⟩ := hA m hm h8; exact ⟨a, ha, e, fun z => absurd z (Nat.not_lt_zero _)⟩⟩
    | succ J ih =>
      rw [kf_s]
      refine ⟨(s_ex_0 J _).trans ih.1, fun m hm h8 => ?_⟩
      rcases o_ex_8 (n := kf s_ex J n1) (i := J) (m := m) with z | ⟨z1, z2, z3⟩
      · exact absurd z h8
      · rw [z1] at h8
        obtain ⟨a, ha, e, g⟩ := ih.2 m hm h8
        refine ⟨a, ha, by rw [z2]; exact e, fun hmJ => ?_⟩
        by_cases em : m = J
        · have hl := z3 em
          subst em
          rw [ih.1, eQ] at hl
          exact o_ag1 h0 h5 ha hQ e hl
        · exact g (by omega)
  obtain ⟨k1, k2⟩ := key (k_mc n1)
  generalize kf s_ex (k_mc n1) n1 = n2 at k1 k2 ⊢
  have em : k_mc (nw n2 0 0 3 (n2 0 0 3 + 1)) = k_mc n1 := by unfold k_mc; rw [nw_at, if_neg (by omega), k1]
  refine ⟨Q, hQ, by rw [nw_at, if_neg (by omega), k1]; exact eQ, fun m hm h8 => ?_⟩
  rw [em] at hm
  rw [nw_k (by decide)] at h8
  obtain ⟨a, ha, e, g⟩ := k2 m hm h8
  refine ⟨a + 1, g hm, ?_⟩
  rw [nw_at, if_pos ⟨rfl, rfl, rfl⟩, nw_k (show (3 : Nat) ≠ 0 by decide), k1, ← nI_1, ← e, Int32.sub_eq_add_neg, Int32.sub_eq_add_neg, Int32.add_assoc, Int32.add_comm 1, Int32.add_assoc]
theorem o_Q_tick {n q : ch_N} (h0 : ¬ n 0 0 3 < 0) (h5 : ¬ 100000 < n 0 0 3) (h : o_Q n) : o_Q (k_tick (n, q)).1 := by
  unfold k_tick
  dsimp only
  have r1 := o_rl_t1 n
  generalize k_t1 n = a at r1 ⊢
  have r := o_rl_tr r1 (o_rl_dc (k_mc a) (a, q))
  generalize (kf s_dc (k_mc a) (a, q)).1 = b at r ⊢
  exact o_Q_t3 (by rw [r.1]; exact h0) (by rw [r.1]; exact h5) (o_Q_rl h r)
/-- the clock -/
theorem o_R_clk {S : ch_S} {μ : ch_M} {w : Nat → Int32} {M : Nat} {v : Int32} (h : o_R S μ w M) : o_R S (ch_st μ 16 22 0 2 v) (up w 3 v) M := by
  refine ⟨fun j hj => ?_, fun m' hm => ?_⟩
  · rw [ch_st_at]
    by_cases e : j = 2
    · subst e; rw [if_pos ⟨rfl, rfl, rfl, rfl⟩]; exact (up_s _ _ _).symm
    · rw [if_neg (fun z => e z.2.2.2), up_n (by unfold o_hd; split <;> omega)]; exact h.1 j hj
  · obtain ⟨h1, h2, h3⟩ := h.2 m' hm
    refine ⟨fun f hf => by rw [o_st_k (by decide), up_n (by omega)]; exact h1 f hf, fun c hc => by rw [o_st_k (by decide), up_n (by omega)]; exact h2 c hc, fun c hc => ?_⟩
    obtain ⟨N, id, g1, g2, g3, g4, g5⟩ := h3 c hc
    exact ⟨N, id, by rw [up_n (by omega)]; exact g1, g2, g3, g4, fun t ht => by rw [o_st_x (by decide), up_n (by omega)]; exact g5 t ht⟩
