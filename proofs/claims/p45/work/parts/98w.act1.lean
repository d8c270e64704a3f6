theorem o_NW_end {n : ch_N} {w : Nat → Int32} {S : ch_S} {μ : ch_M} (hN : o_NW n w S μ) {m : Nat} (hm : m < k_mc n) : o_NW (k_idle n m) (r_end w m) S (ch_st (ch_st (ch_st (ch_st μ 16 23 m 4 0) 16 23 m 5 (-1)) 16 23 m 6 0) 16 23 m 8 (-1)) := by
  have hc8 := hN.c8
  have ek : ∀ kd, kd ≠ 3 → kd ≠ 5 → kd ≠ 6 → k_idle n m kd = n kd := fun kd h3 h5 h6 => k_idle_ne h3 h5 h6
  have g9 : k_cc (k_idle n m) ≤ 8 := by rw [k_cc_0 (ek 0 (by decide) (by decide) (by decide))]; exact hc8
  refine o_NW_mk hN.st (k_cc_0 (ek 0 (by decide) (by decide) (by decide))) (k_mc_0 (ek 0 (by decide) (by decide) (by decide))) (r_N_end hN.rn hm) (o_R_mob (o_R_mob (o_R_mob (o_R_mob hN.R (by decide)) (by decide)) (by decide)) (by decide)) ?_
  exact o_A_mob (o_A_mob (o_A_mob (o_A_mob (o_A_n hN.A (ek 1 (by decide) (by decide) (by decide)) (ek 2 (by decide) (by decide) (by decide)) (ek 7 (by decide) (by decide) (by decide)) (k_cc_0 (ek 0 (by decide) (by decide) (by decide)))) g9) g9) g9) g9
theorem o_NW_vel {n : ch_N} {w : Nat → Int32} {S : ch_S} {μ : ch_M} (hN : o_NW n w S μ) {m : Nat} (hm : m < k_mc n) {x y : Int32} : o_NW (nw (nw n 3 m 2 x) 3 m 3 y) (up (up w (210 + 91 * m + 2) x) (210 + 91 * m + 3) y) S (ch_st (ch_st μ 16 23 m 2 x) 16 23 m 3 y) := by
  have hc8 := hN.c8
  have ek : ∀ kd, kd ≠ 3 → nw (nw n 3 m 2 x) 3 m 3 y kd = n kd := fun kd h3 => by rw [nw_k h3, nw_k h3]
  have g9 : k_cc (nw (nw n 3 m 2 x) 3 m 3 y) ≤ 8 := by rw [k_cc_0 (ek 0 (by decide))]; exact hc8
  refine o_NW_mk hN.st (k_cc_0 (ek 0 (by decide))) (k_mc_0 (ek 0 (by decide))) (r_N_set (r_N_set hN.rn hm (by omega) (fun z => by omega) (fun z => by omega)) (by rw [k_mc_0 (nw_k (by decide))]; exact hm) (by omega) (fun z => by omega) (fun z => by omega)) (o_R_mob (o_R_mob hN.R (by decide)) (by decide)) ?_
  exact o_A_mob (o_A_mob (o_A_n hN.A (ek 1 (by decide)) (ek 2 (by decide)) (ek 7 (by decide)) (k_cc_0 (ek 0 (by decide)))) g9) g9
theorem o_NW_hys {n : ch_N} {w : Nat → Int32} {S : ch_S} {μ : ch_M} (hN : o_NW n w S μ) {a b : Nat} (ha : a < 8) (hb : b < 8) (hx : ¬ n 2 (8 * a + b) 0 = 0) {v : Int32} : ∃ w', o_NW (nw n 2 (8 * a + b) 1 v) w' S (ch_st μ 16 48 (8 + a) b v) := by
  obtain ⟨r, hr, ea, eb⟩ := hN.rn.2.2.2.1.2.2.2.1 a b ha hb hx
  have hr24 := r_24 hN.rn
  exact ⟨_, o_NW_mk hN.st (k_cc_0 (nw_k (by decide))) (k_mc_0 (nw_k (by decide))) (r_N_rel hN.rn ha hb hr ea eb (Or.inl rfl) hx) (o_R_w (o_R_48 hN.R (by omega)) (fun i hi => up_n (by omega))) (o_A_rel (f := 1) hN.A hN.c8 ha hb (Or.inl rfl) (fun _ => hx))⟩
theorem r_vel {a : Nat} (h : a < 99) : k_rg (-99) 99 (nI a - 49) := by
  have key : ∀ a, a < 99 → ¬ nI a - 49 < -99 ∧ ¬ 99 < nI a - 49 := by decide +kernel
  exact key a h
