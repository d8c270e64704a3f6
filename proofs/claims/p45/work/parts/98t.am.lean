/-! a mobile added keeps it -/
theorem am_3 {n : ch_N} {M j f : Nat} {x y vx vy : Int32} (hj : j ≠ M) : k_amN n M x y vx vy 3 j f = n 3 j f := by
  unfold k_amN k_plc k_idle k_clr
  rw [na_k (by decide), na_k (by decide)]
  simp [nw_at, hj]
theorem am_M {n : ch_N} {M f : Nat} {x y vx vy : Int32} (hf : f = 4 ∨ f = 5 ∨ f = 6 ∨ f = 8) : k_amN n M x y vx vy 3 M f = if f = 4 ∨ f = 6 then 0 else -1 := by
  unfold k_amN k_plc k_idle k_clr
  rw [na_k (by decide), na_k (by decide)]
  rcases hf with rfl | rfl | rfl | rfl <;> simp [nw_at]
theorem am_k {n : ch_N} {M kd : Nat} {x y vx vy : Int32} (a : kd ≠ 0) (b : kd ≠ 3) (c : kd ≠ 5) (d : kd ≠ 6) : k_amN n M x y vx vy kd = n kd := by
  unfold k_amN k_plc
  rw [k_idle_ne b c d, nw_k b, nw_k b, nw_k b, nw_k b, nw_k a]
theorem am_0 {n : ch_N} {M j : Nat} {x y vx vy : Int32} : k_amN n M x y vx vy 0 0 j = if j = 2 then nI (M + 1) else n 0 0 j := by
  unfold k_amN k_plc
  rw [k_idle_ne (by decide) (by decide) (by decide), nw_k (by decide), nw_k (by decide), nw_k (by decide), nw_k (by decide), nw_at]
  by_cases g : j = 2
  · rw [if_pos ⟨rfl, rfl, g⟩, if_pos g]
  · rw [if_neg (fun z => g z.2.2), if_neg g]
theorem am_cc {n : ch_N} {M : Nat} {x y vx vy : Int32} : k_cc (k_amN n M x y vx vy) = k_cc n := by unfold k_cc; rw [am_0, if_neg (by decide)]
theorem am_mc {n : ch_N} {M : Nat} {x y vx vy : Int32} (h : M < 12) : k_mc (k_amN n M x y vx vy) = M + 1 := by unfold k_mc; rw [am_0, if_pos rfl, nI_clamp (by omega)]
theorem s_J_am {B : Nat} {n : ch_N} {M : Nat} {x y vx vy : Int32} (h : s_J B n) (hM : M = k_mc n) (hM12 : M < 12) : s_J B (k_amN n M x y vx vy) := by
  obtain ⟨⟨a0, a1, a2, a3, a4, a5, a6, a7⟩, b, ⟨Q, q1, q2, q3⟩, d, e⟩ := h
  have em := am_mc (n := n) (x := x) (y := y) (vx := vx) (vy := vy) hM12
  have ec := am_cc (n := n) (M := M) (x := x) (y := y) (vx := vx) (vy := vy)
  have e1 := am_k (n := n) (M := M) (kd := 1) (x := x) (y := y) (vx := vx) (vy := vy) (by decide) (by decide) (by decide) (by decide)
  have e2 := am_k (n := n) (M := M) (kd := 2) (x := x) (y := y) (vx := vx) (vy := vy) (by decide) (by decide) (by decide) (by decide)
  have e7 := am_k (n := n) (M := M) (kd := 7) (x := x) (y := y) (vx := vx) (vy := vy) (by decide) (by decide) (by decide) (by decide)
  have e3 : ∀ {j f}, j ≠ M → k_amN n M x y vx vy 3 j f = n 3 j f := fun hj => am_3 hj
  have f4 := am_M (n := n) (M := M) (f := 4) (x := x) (y := y) (vx := vx) (vy := vy) (Or.inl rfl)
  have f6 := am_M (n := n) (M := M) (f := 6) (x := x) (y := y) (vx := vx) (vy := vy) (Or.inr (Or.inr (Or.inl rfl)))
  have f8 := am_M (n := n) (M := M) (f := 8) (x := x) (y := y) (vx := vx) (vy := vy) (Or.inr (Or.inr (Or.inr rfl)))
  rw [if_pos (Or.inl rfl)] at f4
  rw [if_pos (Or.inr rfl)] at f6
  rw [if_neg (by decide)] at f8
  have hT : ∀ c, o_T (k_amN n M x y vx vy) c = o_T n c := fun c => by
    unfold o_T
    rw [em, kf_s, if_neg (fun z => by rw [f4] at z; exact absurd z.1 (by decide)), hM]
    exact kf_cnt_eq (p := fun i => k_amN n (k_mc n) x y vx vy 3 i 4 = 1 ∧ k_amN n (k_mc n) x y vx vy 3 i 5 = c) (q := fun i => n 3 i 4 = 1 ∧ n 3 i 5 = c) _ (fun i hi => by rw [am_3 (by omega), am_3 (by omega)])
  have hW : ∀ c, c < 2 ^ 31 → o_W (k_amN n M x y vx vy) c = o_W n c := fun c hc => by
    unfold o_W
    rw [em, kf_s, if_neg (fun z => by rw [f8] at z; exact nI_nm1 hc z.symm), hM]
    exact kf_cnt_eq (p := fun i => k_amN n (k_mc n) x y vx vy 3 i 8 = nI c) (q := fun i => n 3 i 8 = nI c) _ (fun i hi => by rw [am_3 (by omega)])
  refine ⟨⟨by rw [em, ec]; omega, fun c hc => by rw [ec] at hc; rw [e1, hT]; exact a1 c hc, fun c hc => by rw [ec] at hc; rw [e1, hW c (by omega)]; exact a2 c hc, by rw [ec, s_sa_cg (fun r => by rw [e2]) ec, e7]; exact a3, by rw [e7]; exact a4, by rw [e2]; exact a5, fun i hi ht => ?_, by rw [e2]; exact a7⟩, ⟨fun m hm z => ?_, by rw [e2]; exact b.2⟩, ⟨Q, q1, by rw [am_0, if_neg (by decide)]; exact q2, fun m hm h8 => ?_⟩, fun m hm z => ?_, s_K_cg e (by rw [am_0, if_neg (by decide)]) ec (fun c => by rw [e1]) (by rw [e7])⟩
  · rw [em] at hi; rw [ec]
    by_cases g : i = M
    · rw [g, f4] at ht; exact absurd ht (by decide)
    · rw [e3 g] at ht ⊢; exact a6 i (by omega) ht
  · by_cases g : m = M
    · rw [g]; exact f6
    · rw [e3 g] at z ⊢; exact b.1 m hm z
  · rw [em] at hm
    by_cases g : m = M
    · rw [g] at h8; exact absurd f8 h8
    · rw [e3 g] at h8; rw [e3 g, am_0, if_neg (by decide)]; exact q3 m (by omega) h8
  · rw [em] at hm
    by_cases g : m = M
    · rw [g]; exact f8
    · rw [e3 g] at z ⊢; exact d m (by omega) z
