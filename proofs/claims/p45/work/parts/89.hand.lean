/-! THE LAW'S OWN MODEL: what a store does to it -/
def o_R (S : ch_S) (μ : ch_M) (w : Nat → Int32) (M : Nat) : Prop := (∀ j, j < 9 → μ 16 22 0 j = w (o_hd j)) ∧ ∀ m, m < M → o_M S μ m w
def o_A (n : ch_N) (μ : ch_M) : Prop := (∀ c f, c < k_cc n → f < 8 → μ 16 48 c f = n 1 c f) ∧ (∀ c, c < k_cc n → μ 16 48 33 c = n 1 c 8) ∧ (∀ t, t < 8 → μ 16 48 32 t = n 7 0 t) ∧
  (∀ a b, a < 8 → b < 8 → μ 16 48 (8 + a) b = (if n 2 (8 * a + b) 0 = 0 then -1 else n 2 (8 * a + b) 1) ∧ μ 16 48 (16 + a) b = n 2 (8 * a + b) 2 ∧ μ 16 48 (24 + a) b = n 2 (8 * a + b) 3)
theorem o_NW_mk {n : ch_N} {w : Nat → Int32} {S : ch_S} {μ : ch_M} {cc M : Nat} (hs : o_St S cc M) (e1 : k_cc n = cc) (e2 : k_mc n = M) (hr : r_N n w) (hR : o_R S μ w M) (hA : o_A n μ) : o_NW n w S μ := by
  subst e1; subst e2
  exact ⟨hs, hr, hR.1, hA.1, hA.2.1, hA.2.2.1, hA.2.2.2, hR.2⟩
theorem o_NW.R {n : ch_N} {w : Nat → Int32} {S : ch_S} {μ : ch_M} (h : o_NW n w S μ) : o_R S μ w (k_mc n) := ⟨h.2.2.1, h.2.2.2.2.2.2.2⟩
theorem o_NW.A {n : ch_N} {w : Nat → Int32} {S : ch_S} {μ : ch_M} (h : o_NW n w S μ) : o_A n μ := ⟨h.2.2.2.1, h.2.2.2.2.1, h.2.2.2.2.2.1, h.2.2.2.2.2.2.1⟩
theorem o_hd_lt {j : Nat} (h : j < 9) : o_hd j < 10 := by unfold o_hd; split <;> omega
theorem o_R_w {S : ch_S} {μ : ch_M} {w w' : Nat → Int32} {M : Nat} (h : o_R S μ w M) (e : ∀ i, i < 10 ∨ 210 ≤ i → w' i = w i) : o_R S μ w' M := by
  refine ⟨fun j hj => by rw [e _ (Or.inl (o_hd_lt hj))]; exact h.1 j hj, fun m hm => ?_⟩
  obtain ⟨h1, h2, h3⟩ := h.2 m hm
  refine ⟨fun f hf => by rw [e _ (Or.inr (by omega))]; exact h1 f hf, fun c hc => by rw [e _ (Or.inr (by omega))]; exact h2 c hc, fun c hc => ?_⟩
  obtain ⟨N, id, g1, g2, g3, g4, g5⟩ := h3 c hc
  exact ⟨N, id, by rw [e _ (Or.inr (by omega))]; exact g1, g2, g3, g4, fun t ht => by rw [e _ (Or.inr (by omega))]; exact g5 t ht⟩
theorem o_R_m {S : ch_S} {μ μ' : ch_M} {w : Nat → Int32} {M : Nat} (h : o_R S μ w M) (e22 : μ' 16 22 0 = μ 16 22 0) (e23 : μ' 16 23 = μ 16 23) (e48 : ∀ i, 40 ≤ i → μ' 16 48 i = μ 16 48 i) (e18 : μ' 18 = μ 18) : o_R S μ' w M := by
  refine ⟨fun j hj => by rw [e22]; exact h.1 j hj, fun m hm => ?_⟩
  obtain ⟨h1, h2, h3⟩ := h.2 m hm
  refine ⟨fun f hf => by rw [e23]; exact h1 f hf, fun c hc => by rw [e48 _ (by omega)]; exact h2 c hc, fun c hc => ?_⟩
  obtain ⟨N, id, g1, g2, g3, g4, g5⟩ := h3 c hc
  exact ⟨N, id, g1, g2, g3, g4, fun t ht => by rw [e18]; exact g5 t ht⟩
theorem o_st_r {μ : ch_M} {kd i j : Nat} {v : Int32} {kd' i' : Nat} (h : ¬ (kd' = kd ∧ i' = i)) : ch_st μ 16 kd i j v 16 kd' i' = μ 16 kd' i' := ch_st_ne (fun z => h ⟨z.2.1, z.2.2⟩)
theorem o_st_k {μ : ch_M} {kd i j : Nat} {v : Int32} {kd' : Nat} (h : kd' ≠ kd) : ch_st μ 16 kd i j v 16 kd' = μ 16 kd' := by funext i'; exact o_st_r (fun z => h z.1)
theorem o_st_x {μ : ch_M} {kd i j : Nat} {v : Int32} {k : Nat} (h : k ≠ 16) : ch_st μ 16 kd i j v k = μ k := by unfold ch_st; exact up_n h
/-- a word of a row 48 below 40 -/
theorem o_R_48 {S : ch_S} {μ : ch_M} {w : Nat → Int32} {M i j : Nat} {v : Int32} (h : o_R S μ w M) (hi : i < 40) : o_R S (ch_st μ 16 48 i j v) w M :=
  o_R_m h (o_st_r (by omega)) (o_st_k (by decide)) (fun q hq => o_st_r (by omega)) (o_st_x (by decide))
theorem o_ix {m m' f g : Nat} (hf : f < 91) (hg : g < 91) (h : ¬ (m' = m ∧ g = f)) : 210 + 91 * m' + g ≠ 210 + 91 * m + f := by omega
theorem o_R_mob {S : ch_S} {μ : ch_M} {w : Nat → Int32} {M m f : Nat} {v : Int32} (h : o_R S μ w M) (hf : f < 11) : o_R S (ch_st μ 16 23 m f v) (up w (210 + 91 * m + f) v) M := by
  refine ⟨fun j hj => by rw [o_st_r (by omega), up_n (by have := o_hd_lt hj; omega)]; exact h.1 j hj, fun m' hm => ?_⟩
  obtain ⟨h1, h2, h3⟩ := h.2 m' hm
  refine ⟨fun f' hf' => ?_, fun c hc => by rw [o_st_r (by omega), up_n (by omega)]; exact h2 c hc, fun c hc => ?_⟩
  · rw [ch_st_at]
    by_cases e : m' = m ∧ f' = f
    · obtain ⟨rfl, rfl⟩ := e
      rw [if_pos ⟨rfl, rfl, rfl, rfl⟩, up_s]
    · rw [if_neg (fun z => e z.2.2), up_n (by omega)]; exact h1 f' hf'
  · obtain ⟨N, id, g1, g2, g3, g4, g5⟩ := h3 c hc
    exact ⟨N, id, by rw [up_n (by omega)]; exact g1, g2, g3, g4, fun t ht => by rw [o_st_x (by decide), up_n (o_ix (by omega) (by omega) (by omega))]; exact g5 t ht⟩
theorem o_R_bar {S : ch_S} {μ : ch_M} {w : Nat → Int32} {M m c : Nat} {v : Int32} (h : o_R S μ w M) (hc : c < 8) : o_R S (ch_st μ 16 48 (40 + m) c v) (up w (210 + 91 * m + (11 + c)) v) M := by
  refine ⟨fun j hj => by rw [o_st_r (by omega), up_n (by have := o_hd_lt hj; omega)]; exact h.1 j hj, fun m' hm => ?_⟩
  obtain ⟨h1, h2, h3⟩ := h.2 m' hm
  refine ⟨fun f hf => by rw [o_st_r (by omega), up_n (by omega)]; exact h1 f hf, fun c' hc' => ?_, fun c' hc' => ?_⟩
  · rw [ch_st_at]
    by_cases e : m' = m ∧ c' = c
    · obtain ⟨rfl, rfl⟩ := e
      rw [if_pos ⟨rfl, rfl, rfl, rfl⟩, up_s]
    · rw [if_neg (fun z => e ⟨by omega, z.2.2.2⟩), up_n (by omega)]; exact h2 c' hc'
  · obtain ⟨N, id, g1, g2, g3, g4, g5⟩ := h3 c' hc'
    exact ⟨N, id, by rw [up_n (by omega)]; exact g1, g2, g3, g4, fun t ht => by rw [o_st_x (by decide), up_n (o_ix (by omega) (by omega) (by omega))]; exact g5 t ht⟩
theorem o_A_n {n n' : ch_N} {μ : ch_M} (h : o_A n μ) (e1 : n' 1 = n 1) (e2 : n' 2 = n 2) (e7 : n' 7 = n 7) (e0 : k_cc n' = k_cc n) : o_A n' μ := by
  obtain ⟨h1, h2, h3, h4⟩ := h
  refine ⟨fun c f hc hf => by rw [e1]; exact h1 c f (by omega) hf, fun c hc => by rw [e1]; exact h2 c (by omega), fun t ht => by rw [e7]; exact h3 t ht, fun a b ha hb => by rw [e2]; exact h4 a b ha hb⟩
theorem o_A_m {n : ch_N} {μ μ' : ch_M} (h : o_A n μ) (h8 : k_cc n ≤ 8) (e : ∀ i, i < 40 → μ' 16 48 i = μ 16 48 i) : o_A n μ' := by
  obtain ⟨h1, h2, h3, h4⟩ := h
  refine ⟨fun c f hc hf => by rw [e _ (by omega)]; exact h1 c f hc hf, fun c hc => by rw [e _ (by omega)]; exact h2 c hc, fun t ht => by rw [e _ (by omega)]; exact h3 t ht, fun a b ha hb => by rw [e _ (by omega), e _ (by omega), e _ (by omega)]; exact h4 a b ha hb⟩
theorem o_A_mob {n : ch_N} {μ : ch_M} {m f : Nat} {v : Int32} (h : o_A n μ) (h8 : k_cc n ≤ 8) : o_A n (ch_st μ 16 23 m f v) := o_A_m h h8 (fun i hi => o_st_r (by omega))
theorem o_A_bar {n : ch_N} {μ : ch_M} {m c : Nat} {v : Int32} (h : o_A n μ) (h8 : k_cc n ≤ 8) : o_A n (ch_st μ 16 48 (40 + m) c v) := o_A_m h h8 (fun i hi => o_st_r (by omega))
theorem o_A_tot {n : ch_N} {μ : ch_M} {t : Nat} {v : Int32} (h : o_A n μ) (h8 : k_cc n ≤ 8) (ht : t < 8) (hv : v = μ 16 48 32 t + 1) : o_A (k_cnt n t) (ch_st μ 16 48 32 t v) := by
  obtain ⟨h1, h2, h3, h4⟩ := h
  have e0 : k_cc (k_cnt n t) = k_cc n := by unfold k_cc k_cnt; rw [nw_k (by decide)]
  unfold k_cnt at e0 ⊢
  refine ⟨fun c f hc hf => by rw [o_st_r (by omega), nw_k (by decide)]; exact h1 c f (by omega) hf, fun c hc => by rw [o_st_r (by omega), nw_k (by decide)]; exact h2 c (by omega), fun q hq => ?_, fun a b ha hb => by rw [o_st_r (by omega), o_st_r (by omega), o_st_r (by omega), nw_k (by decide)]; exact h4 a b ha hb⟩
  rw [ch_st_at, nw_at]
  by_cases e : q = t
  · subst e; rw [if_pos ⟨rfl, rfl, rfl, rfl⟩, if_pos ⟨rfl, rfl, rfl⟩, hv, h3 q hq]
  · rw [if_neg (fun z => e z.2.2.2), if_neg (fun z => e z.2.2)]; exact h3 q hq
theorem o_A_rel {n : ch_N} {μ : ch_M} {a b f : Nat} {v : Int32} (h : o_A n μ) (h8 : k_cc n ≤ 8) (ha : a < 8) (hb : b < 8) (hf : f = 1 ∨ f = 2 ∨ f = 3) (hex : f = 1 → ¬ n 2 (8 * a + b) 0 = 0) : o_A (nw n 2 (8 * a + b) f v) (ch_st μ 16 48 (8 * f + a) b v) := by
  obtain ⟨h1, h2, h3, h4⟩ := h
  have e0 : k_cc (nw n 2 (8 * a + b) f v) = k_cc n := by unfold k_cc; rw [nw_k (by decide)]
  refine ⟨fun c g hc hg => by rw [o_st_r (by omega), nw_k (by decide)]; exact h1 c g (by omega) hg, fun c hc => by rw [o_st_r (by omega), nw_k (by decide)]; exact h2 c (by omega), fun q hq => by rw [o_st_r (by omega), nw_k (by decide)]; exact h3 q hq, fun p q hp hq => ?_⟩
  obtain ⟨g1, g2, g3⟩ := h4 p q hp hq
  have E : ∀ x : Nat, x = 1 ∨ x = 2 ∨ x = 3 → (nw n 2 (8 * a + b) f v) 2 (8 * p + q) x = if x = f ∧ p = a ∧ q = b then v else n 2 (8 * p + q) x := fun x hx => by
    rw [nw_at]
    by_cases e : x = f ∧ p = a ∧ q = b
    · rw [if_pos e, if_pos ⟨rfl, by omega, e.1⟩]
    · rw [if_neg e, if_neg (fun z => e ⟨z.2.2, by omega, by omega⟩)]
  have E0 : (nw n 2 (8 * a + b) f v) 2 (8 * p + q) 0 = n 2 (8 * p + q) 0 := by rw [nw_at, if_neg (by omega)]
  have F : ∀ x : Nat, x = 1 ∨ x = 2 ∨ x = 3 → ch_st μ 16 48 (8 * f + a) b v 16 48 (8 * x + p) q = if x = f ∧ p = a ∧ q = b then v else μ 16 48 (8 * x + p) q := fun x hx => by
    rw [ch_st_at]
    by_cases e : x = f ∧ p = a ∧ q = b
    · rw [if_pos e, if_pos ⟨rfl, rfl, by omega, e.2.2⟩]
    · rw [if_neg e, if_neg (fun z => e ⟨by omega, by omega, z.2.2.2⟩)]
  have F1 := F 1 (Or.inl rfl); have F2 := F 2 (Or.inr (Or.inl rfl)); have F3 := F 3 (Or.inr (Or.inr rfl))
  have E1 := E 1 (Or.inl rfl); have E2 := E 2 (Or.inr (Or.inl rfl)); have E3 := E 3 (Or.inr (Or.inr rfl))
  refine ⟨?_, ?_, ?_⟩
  · rw [show 8 + p = 8 * 1 + p from rfl, F1, E1, E0]
    by_cases e : 1 = f ∧ p = a ∧ q = b
    · obtain ⟨rfl, rfl, rfl⟩ := e
      rw [if_pos (show 1 = 1 ∧ p = p ∧ q = q from ⟨rfl, rfl, rfl⟩), if_neg (hex rfl)]; exact (if_pos ⟨rfl, rfl, rfl⟩).symm
    · rw [if_neg e, if_neg e]; exact g1
  · rw [show 16 + p = 8 * 2 + p from rfl, F2, E2]
    by_cases e : 2 = f ∧ p = a ∧ q = b
    · rw [if_pos e, if_pos e]
    · rw [if_neg e, if_neg e]; exact g2
  · rw [show 24 + p = 8 * 3 + p from rfl, F3, E3]
    by_cases e : 3 = f ∧ p = a ∧ q = b
    · rw [if_pos e, if_pos e]
    · rw [if_neg e, if_neg e]; exact g3
theorem o_A_cg {n : ch_N} {μ : ch_M} {c : Nat} {v : Int32} (h : o_A n μ) (h8 : k_cc n ≤ 8) : o_A (nw n 1 c 8 v) (ch_st μ 16 48 33 c v) := by
  obtain ⟨h1, h2, h3, h4⟩ := h
  have e0 : k_cc (nw n 1 c 8 v) = k_cc n := by unfold k_cc; rw [nw_k (by decide)]
  refine ⟨fun q f hq hf => by rw [o_st_r (by omega), nw_at, if_neg (by omega)]; exact h1 q f (by omega) hf, fun q hq => ?_, fun q hq => by rw [o_st_r (by omega), nw_k (by decide)]; exact h3 q hq, fun p q hp hq => by rw [o_st_r (by omega), o_st_r (by omega), o_st_r (by omega), nw_k (by decide)]; exact h4 p q hp hq⟩
  rw [ch_st_at, nw_at]
  by_cases e : q = c
  · subst e; rw [if_pos ⟨rfl, rfl, rfl, rfl⟩, if_pos ⟨rfl, rfl, rfl⟩]
  · rw [if_neg (fun z => e z.2.2.2), if_neg (fun z => e z.2.1)]; exact h2 q (by omega)
/-- the memory is another in network 16 alone -/
def o_f16 (μ μ' : ch_M) : Prop := ∀ k, k ≠ 16 → μ' k = μ k
theorem o_f16_0 {μ : ch_M} : o_f16 μ μ := fun _ _ => rfl
theorem o_f16_st {μ μ' : ch_M} {kd i j : Nat} {v : Int32} (h : o_f16 μ μ') : o_f16 μ (ch_st μ' 16 kd i j v) := fun k hk => (o_st_x hk).trans (h k hk)
/-- a post: names as they were, network 16 written -/
def o_PX (n' : ch_N) (S : ch_S) (μ : ch_M) : Option Value → ch_S → ch_M → Prop := fun v' S' μ' => v' = none ∧ S' = S ∧ o_f16 μ μ' ∧ ∃ w', o_NW n' w' S μ'
theorem k_idle_ne {n : ch_N} {i : Nat} {kd : Nat} (h3 : kd ≠ 3) (h5 : kd ≠ 5) (h6 : kd ≠ 6) : k_idle n i kd = n kd := by
  unfold k_idle k_clr
  rw [na_k h6, na_k h5, nw_k h3, nw_k h3, nw_k h3, nw_k h3, nw_k h3, nw_k h3]
theorem k_cc_0 {n n' : ch_N} (h : n' 0 = n 0) : k_cc n' = k_cc n := by unfold k_cc; rw [h]
theorem k_mc_0 {n n' : ch_N} (h : n' 0 = n 0) : k_mc n' = k_mc n := by unfold k_mc; rw [h]
theorem o_NW.clk {n : ch_N} {w : Nat → Int32} {S : ch_S} {μ : ch_M} (h : o_NW n w S μ) : μ 16 22 0 2 = n 0 0 3 := h.hd (by decide)
theorem o_NW.pp {n : ch_N} {w : Nat → Int32} {S : ch_S} {μ : ch_M} (h : o_NW n w S μ) : μ 16 22 0 5 = n 0 0 6 := h.hd (by decide)
theorem o_NW.br {n : ch_N} {w : Nat → Int32} {S : ch_S} {μ : ch_M} (h : o_NW n w S μ) {m c : Nat} (hm : m < k_mc n) (ht : n 3 m 4 = 1) (hc : c < 8) : μ 16 48 (40 + m) c = n 6 m c := ((h.mb hm).2.1 c hc).trans (r_br h.rn hm ht hc)
theorem o_homw {w w2 : Nat → Int32} {m s q : Nat} {t v x : Int32} (hs : s < 8) (hq : 10 ≤ q ∧ q < 210) (e : ∀ i, i < 10 ∨ 210 ≤ i → w2 i = w i) (i : Nat) (hi : i < 10 ∨ 210 ≤ i) : up (r_hom w2 m s t v) q x i = up (up (up (up w (210 + 91 * m + 5) t) (210 + 91 * m + 7) 0) (210 + 91 * m + 8) (-1)) (210 + 91 * m + (11 + s)) v i := by
  rw [up_n (by omega)]
  unfold r_hom r_wd
  by_cases h8 : i = 210 + 91 * m + 8
  · subst h8; rw [up_s, up_n (by omega), up_s]
  rw [up_n h8]
  by_cases h7 : i = 210 + 91 * m + 7
  · subst h7; rw [up_s, up_n (by omega), up_n (by omega), up_s]
  rw [up_n h7]
  by_cases h11 : i = 210 + 91 * m + (11 + s)
  · subst h11; rw [up_s, up_s]
  rw [up_n h11, up_n h11, up_n h8, up_n h7]
  by_cases h5 : i = 210 + 91 * m + 5
  · subst h5; rw [up_s, up_s]
  rw [up_n h5, up_n h5]
  exact e i hi
set_option maxHeartbeats 200000 in
theorem c_X12_ends {l : Launch} {E : ch_E} {S : ch_S} {μ : ch_M} {n : ch_N} {w : Nat → Int32} (hN : o_NW n w S μ) {m : Nat} (hm : m < k_mc n) : ch_C E l yX12_ends cX12_ends 1 none 1 0 0 S μ [.ref (S.1 16 23 m)] (o_PX (k_idle n m) S μ) := by
  refine ch_enter rfl rfl ?_
  intro X hl0 h hG hR hnm
  have h : ch_H X E RX12 cX12_ends 1 := h
  have hm12 := hN.m12
  have hc8 := hN.c8
  show ch_W X E 1 S μ 0 0 0 [(0, .ref (S.1 16 23 m))] []
  refine ca_aload_nr h dX12_ends_0 rfl ?_
  refine ca_iconst h dX12_ends_1 ik_0 ?_
  refine pi_X12_38 h (hN.st.1 _ _ _ (by show _ ∧ _; omega)) dX12_ends_2 ?_
  refine ca_aload_nr h dX12_ends_5 rfl ?_
  refine ca_iconst h dX12_ends_6 ik_m1 ?_
  refine pi_X12_7 h (hN.st.1 _ _ _ (by show _ ∧ _; omega)) dX12_ends_7 ?_
  refine ca_aload_nr h dX12_ends_10 rfl ?_
  refine ca_iconst h dX12_ends_11 ik_0 ?_
  refine pi_X12_41 h (hN.st.1 _ _ _ (by show _ ∧ _; omega)) dX12_ends_12 ?_
  refine ca_aload_nr h dX12_ends_15 rfl ?_
  refine ca_iconst h dX12_ends_16 ik_m1 ?_
  refine pi_X12_13 h (hN.st.1 _ _ _ (by show _ ∧ _; omega)) dX12_ends_17 ?_
  refine ca_vreturn h hR dX12_ends_20 ?_
  refine ⟨rfl, rfl, o_f16_st (o_f16_st (o_f16_st (o_f16_st o_f16_0))), r_end w m, ?_⟩
  have ek : ∀ kd, kd ≠ 3 → kd ≠ 5 → kd ≠ 6 → k_idle n m kd = n kd := fun kd h3 h5 h6 => k_idle_ne h3 h5 h6
  refine o_NW_mk hN.st (k_cc_0 (ek 0 (by decide) (by decide) (by decide))) (k_mc_0 (ek 0 (by decide) (by decide) (by decide))) (r_N_end hN.rn hm) (o_R_mob (o_R_mob (o_R_mob (o_R_mob hN.R (by decide)) (by decide)) (by decide)) (by decide)) ?_
  exact o_A_mob (o_A_mob (o_A_mob (o_A_mob (o_A_n hN.A (ek 1 (by decide) (by decide) (by decide)) (ek 2 (by decide) (by decide) (by decide)) (ek 7 (by decide) (by decide) (by decide)) (k_cc_0 (ek 0 (by decide) (by decide) (by decide)))) (by rw [k_cc_0 (ek 0 (by decide) (by decide) (by decide))]; exact hc8)) (by rw [k_cc_0 (ek 0 (by decide) (by decide) (by decide))]; exact hc8)) (by rw [k_cc_0 (ek 0 (by decide) (by decide) (by decide))]; exact hc8)) (by rw [k_cc_0 (ek 0 (by decide) (by decide) (by decide))]; exact hc8)
set_option maxHeartbeats 400000 in
theorem c_X13_hands {l : Launch} {E : ch_E} {S : ch_S} {μ : ch_M} {n : ch_N} {w : Nat → Int32} (hN : o_NW n w S μ) {m : Nat} (hm : m < k_mc n) (ht : n 3 m 4 = 1) {s t : Nat} (hsc : s < k_cc n) (h5 : n 3 m 5 = nI s) (htc : t < k_cc n) (hrel : ¬ n 2 (8 * s + t) 0 = 0) : ch_C E l yX13_hands cX13_hands 5 none 1 0 0 S μ [.ref (S.1 16 22 0), .int (nI m), .int (nI t)] (o_PX (k_ho n m (nI t)) S μ) := by
  refine ch_enter rfl rfl ?_
  intro X hl0 h hG hR hnm
  have h : ch_H X E RX13 cX13_hands 5 := h
  have hm12 := hN.m12
  have hc8 := hN.c8
  show ch_W X E 5 S μ 0 0 0 [(0, .ref (S.1 16 22 0)), (1, .int (nI m)), (2, .int (nI t))] []
  refine ca_aload_nr h dX13_hands_0 rfl ?_
  refine gr_X13_52 h (hN.st.1 _ _ _ (by show _ ∧ _; omega)) (hN.st.2.1 _ _ _ _ _ (by show _ ∧ _; omega) rfl) dX13_hands_1 ?_
  show ch_W X E _ _ _ _ _ _ _ (.ref (S.1 16 25 0) :: _)
  refine ca_iload_n h dX13_hands_4 rfl ?_
  refine oa_aald h (j := m) rfl (by decide) (hN.st.1 _ _ _ (by show _ ∧ _; omega)) rfl (by omega) (by decide) (hN.st.2.1 _ _ _ _ _ (by show _ ∧ _; omega) (o_rt25 (by omega))) dX13_hands_5 ?_
  show ch_W X E _ _ _ _ _ _ _ (.ref (S.1 16 23 m) :: _)
  refine ca_astore_n h dX13_hands_6 rfl ?_
  refine ca_aload_nr h dX13_hands_7 rfl ?_
  refine gi_X13_91 h (hN.st.1 _ _ _ (by show _ ∧ _; omega)) dX13_hands_8 ?_
  refine ca_top (y := nI s) ((hN.mf (f := 5) (by omega) (by decide)).trans h5) ?_
  refine ca_istore h dX13_hands_11 rfl ?_
  refine ca_aload_nr h dX13_hands_13 rfl ?_
  refine gr_X13_44 h (hN.st.1 _ _ _ (by show _ ∧ _; omega)) (hN.st.2.1 _ _ _ _ _ (by show _ ∧ _; omega) rfl) dX13_hands_14 ?_
  show ch_W X E _ _ _ _ _ _ _ (.ref (S.1 16 48 32) :: _)
  refine ca_iconst h dX13_hands_17 ik_0 ?_
  refine ca_dup2 h dX13_hands_18 rfl rfl ?_
  refine oa_iald h (j := 0) rfl (hN.st.1 _ _ _ (by show _ ∧ _; omega)) rfl (by omega) (by decide) dX13_hands_19 ?_
  refine ca_iconst h dX13_hands_20 ik_1 ?_
  refine ca_iadd h dX13_hands_21 ?_
  refine oa_iast h (j := 0) rfl (hN.st.1 _ _ _ (by show _ ∧ _; omega)) rfl (by omega) (by decide) dX13_hands_22 ?_
  refine ca_aload_nr h dX13_hands_23 rfl ?_
  refine gr_X13_128 h (hN.st.1 _ _ _ (by show _ ∧ _; omega)) (hN.st.2.1 _ _ _ _ _ (by show _ ∧ _; omega) rfl) dX13_hands_24 ?_
  show ch_W X E _ _ _ _ _ _ _ (.ref (S.1 16 48 (40 + m)) :: _)
  refine ca_iload_n h dX13_hands_27 rfl ?_
  refine oa_iald h (j := t) rfl (hN.st.1 _ _ _ (by show _ ∧ _; omega)) rfl (by omega) (by decide) dX13_hands_28 ?_
  refine ca_top (y := n 6 m t) (by (repeat rw [ch_st_at, if_neg (by omega)]); exact (hN.br hm ht (by omega))) ?_
  refine ca_aload_nr h dX13_hands_29 rfl ?_
  refine gi_X13_63 h (hN.st.1 _ _ _ (by show _ ∧ _; omega)) dX13_hands_30 ?_
  refine ca_top (y := n 0 0 3) (by (repeat rw [ch_st_at, if_neg (by omega)]); exact hN.clk) ?_
  refine ca_icmp_lt (tgt := 46) h dX13_hands_33 (by decide) (fun c_33 => ?_) (fun c_33 => ?_)
  ·
    refine ca_aload_nr h dX13_hands_46 rfl ?_
    refine ca_iload_n h dX13_hands_47 rfl ?_
    refine pi_X13_91 h (hN.st.1 _ _ _ (by show _ ∧ _; omega)) dX13_hands_48 ?_
    refine ca_aload_nr h dX13_hands_51 rfl ?_
    refine ca_iconst h dX13_hands_52 ik_0 ?_
    refine pi_X13_131 h (hN.st.1 _ _ _ (by show _ ∧ _; omega)) dX13_hands_53 ?_
    refine ca_aload_nr h dX13_hands_56 rfl ?_
    refine ca_iconst h dX13_hands_57 ik_m1 ?_
    refine pi_X13_96 h (hN.st.1 _ _ _ (by show _ ∧ _; omega)) dX13_hands_58 ?_
    refine ca_aload_nr h dX13_hands_61 rfl ?_
    refine gr_X13_128 h (hN.st.1 _ _ _ (by show _ ∧ _; omega)) (hN.st.2.1 _ _ _ _ _ (by show _ ∧ _; omega) rfl) dX13_hands_62 ?_
    show ch_W X E _ _ _ _ _ _ _ (.ref (S.1 16 48 (40 + m)) :: _)
    refine ca_iload h dX13_hands_65 rfl ?_
    refine ca_aload_nr h dX13_hands_67 rfl ?_
    refine gi_X13_63 h (hN.st.1 _ _ _ (by show _ ∧ _; omega)) dX13_hands_68 ?_
    refine ca_top (y := n 0 0 3) (by (repeat rw [ch_st_at, if_neg (by omega)]); exact hN.clk) ?_
    refine ca_aload_nr h dX13_hands_71 rfl ?_
    refine gi_X13_16 h (hN.st.1 _ _ _ (by show _ ∧ _; omega)) dX13_hands_72 ?_
    refine ca_top (y := n 0 0 6) (by (repeat rw [ch_st_at, if_neg (by omega)]); exact hN.pp) ?_
    refine ca_iadd h dX13_hands_75 ?_
    refine oa_iast h (j := s) rfl (hN.st.1 _ _ _ (by show _ ∧ _; omega)) rfl (by omega) (by decide) dX13_hands_76 ?_
    refine ca_aload_nr h dX13_hands_77 rfl ?_
    refine gr_X13_38 h (hN.st.1 _ _ _ (by show _ ∧ _; omega)) (hN.st.2.1 _ _ _ _ _ (by show _ ∧ _; omega) rfl) dX13_hands_78 ?_
    show ch_W X E _ _ _ _ _ _ _ (.ref (S.1 16 24 2) :: _)
    refine ca_iload h dX13_hands_81 rfl ?_
    refine oa_aald h (j := s) rfl (by decide) (hN.st.1 _ _ _ (by show _ ∧ _; omega)) rfl (by omega) (by decide) (hN.st.2.1 _ _ _ _ _ (by show _ ∧ _; omega) (o_rt242 (by omega))) dX13_hands_83 ?_
    show ch_W X E _ _ _ _ _ _ _ (.ref (S.1 16 48 (16 + s)) :: _)
    refine ca_iload_n h dX13_hands_84 rfl ?_
    refine ca_dup2 h dX13_hands_85 rfl rfl ?_
    refine oa_iald h (j := t) rfl (hN.st.1 _ _ _ (by show _ ∧ _; omega)) rfl (by omega) (by decide) dX13_hands_86 ?_
    refine ca_top (y := n 2 (8 * s + t) 2) (by (repeat rw [ch_st_at, if_neg (by omega)]); exact (hN.su (by omega) (by omega))) ?_
    refine ca_iconst h dX13_hands_87 ik_1 ?_
    refine ca_iadd h dX13_hands_88 ?_
    refine oa_iast h (j := t) rfl (hN.st.1 _ _ _ (by show _ ∧ _; omega)) rfl (by omega) (by decide) dX13_hands_89 ?_
    refine ca_vreturn h hR dX13_hands_90 ?_
    obtain ⟨n2, hn2⟩ : ∃ n2, n2 = k_cnt n 0 := ⟨_, rfl⟩
    obtain ⟨w2, hw0⟩ : ∃ w2, w2 = up w (10 + 0) (w (10 + 0) + 1) := ⟨_, rfl⟩
    have hw2 : ∀ i, i < 10 ∨ 210 ≤ i → w2 i = w i := fun i hi => by rw [hw0, up_n (by omega)]
    have hr2 : r_N n2 w2 := by rw [hn2, hw0]; exact r_N_tot hN.rn (by decide)
    have hsel : n2 = if k_isb n m (nI t) (n 0 0 3) = true then k_cnt (k_cnt n 0) 1 else k_cnt n 0 := by rw [k_isb_c (by omega), decide_eq_true c_33, hn2]; rfl
    have e0 : n2 0 = n 0 := by rw [hn2]; exact k_cnt_0 _ _
    have e3 : n2 3 = n 3 := by rw [hn2]; exact k_cnt_3 _ _
    have e1 : n2 1 = n 1 := by rw [hn2]; unfold k_cnt; rw [nw_k (by decide)]
    have e2 : n2 2 = n 2 := by rw [hn2]; unfold k_cnt; rw [nw_k (by decide)]
    have ec : k_cc n2 = k_cc n := k_cc_0 e0
    have em : k_mc n2 = k_mc n := k_mc_0 e0
    obtain ⟨v, hv⟩ : ∃ v, v = n 0 0 3 + n 0 0 6 := ⟨_, rfl⟩
    have hr5 : r_N (k_hom n2 m (nI t) v) (r_hom w2 m s (nI t) v) := r_N_hom hr2 (by rw [em]; exact hm) (by rw [e3]; exact ht) (by rw [e3]; exact h5) (by omega) (by rw [ec]; exact htc)
    have hc5 := k_hom_c (n := n2) (i := m) (s := s) (t := nI t) (v := v) (by omega) (by rw [e3]; exact h5)
    have k5 : ∀ kd, kd ≠ 3 → kd ≠ 6 → k_hom n2 m (nI t) v kd = n2 kd := fun kd q3 q6 => by rw [hc5, nw_k q3, nw_k q3, nw_k q3, nw_k q6]
    have hrel5 : ¬ k_hom n2 m (nI t) v 2 (8 * s + t) 0 = 0 := by rw [k5 2 (by decide) (by decide), e2]; exact hrel
    obtain ⟨r, hr, ea, eb⟩ := hr5.2.2.2.1.2.2.2.1 s t (by omega) (by omega) hrel5
    have hr24 := r_24 hr5
    have c5 : k_cc (k_hom n2 m (nI t) v) = k_cc n := by rw [k_cc_0 (k5 0 (by decide) (by decide)), ec]
    refine ⟨rfl, rfl, o_f16_st (o_f16_st (o_f16_st (o_f16_st (o_f16_st (o_f16_st (o_f16_0)))))), up (r_hom w2 m s (nI t) v) (90 + 5 * r + (2 + 1)) (n 2 (8 * s + t) 2 + 1), ?_⟩
    rw [k_ho_eq (n := n) (i := m) (s := s) (t := t) (n2 := n2) (by omega) (by omega) h5 hsel, ← hv, k5 2 (by decide) (by decide), e2]
    refine o_NW_mk hN.st ?_ ?_ (r_N_rel hr5 (by omega) (by omega) hr ea eb (Or.inr (Or.inl rfl)) hrel5) ?_ ?_
    · rw [k_cc_0 (nw_k (by decide)), c5]
    · rw [k_mc_0 (nw_k (by decide)), k_mc_0 (k5 0 (by decide) (by decide)), em]
    · refine o_R_48 (o_R_w (o_R_bar (o_R_mob (o_R_mob (o_R_mob (o_R_48 hN.R (by decide)) (by decide)) (by decide)) (by decide)) (by omega)) (fun i hi => o_homw (by omega) (by omega) hw2 i hi)) (by omega)
    · have hA2 : o_A n2 (ch_st μ 16 48 32 0 (μ 16 48 32 0 + 1)) := by rw [hn2]; exact o_A_tot hN.A hc8 (by decide) rfl
      have hA5 : o_A (k_hom n2 m (nI t) v) _ := o_A_bar (m := m) (c := s) (v := v) (o_A_mob (m := m) (f := 8) (v := -1) (o_A_mob (m := m) (f := 7) (v := 0) (o_A_mob (m := m) (f := 5) (v := nI t) (o_A_n hA2 (k5 1 (by decide) (by decide)) (k5 2 (by decide) (by decide)) (k5 7 (by decide) (by decide)) (k_cc_0 (k5 0 (by decide) (by decide)))) (by rw [c5]; exact hc8)) (by rw [c5]; exact hc8)) (by rw [c5]; exact hc8)) (by rw [c5]; exact hc8)
      exact o_A_rel (f := 2) hA5 (by rw [c5]; exact hc8) (by omega) (by omega) (Or.inr (Or.inl rfl)) (fun z => by cases z)
  ·
    refine ca_aload_nr h dX13_hands_36 rfl ?_
    refine gr_X13_44 h (hN.st.1 _ _ _ (by show _ ∧ _; omega)) (hN.st.2.1 _ _ _ _ _ (by show _ ∧ _; omega) rfl) dX13_hands_37 ?_
    show ch_W X E _ _ _ _ _ _ _ (.ref (S.1 16 48 32) :: _)
    refine ca_iconst h dX13_hands_40 ik_1 ?_
    refine ca_dup2 h dX13_hands_41 rfl rfl ?_
    refine oa_iald h (j := 1) rfl (hN.st.1 _ _ _ (by show _ ∧ _; omega)) rfl (by omega) (by decide) dX13_hands_42 ?_
    refine ca_iconst h dX13_hands_43 ik_1 ?_
    refine ca_iadd h dX13_hands_44 ?_
    refine oa_iast h (j := 1) rfl (hN.st.1 _ _ _ (by show _ ∧ _; omega)) rfl (by omega) (by decide) dX13_hands_45 ?_
    refine ca_aload_nr h dX13_hands_46 rfl ?_
    refine ca_iload_n h dX13_hands_47 rfl ?_
    refine pi_X13_91 h (hN.st.1 _ _ _ (by show _ ∧ _; omega)) dX13_hands_48 ?_
    refine ca_aload_nr h dX13_hands_51 rfl ?_
    refine ca_iconst h dX13_hands_52 ik_0 ?_
    refine pi_X13_131 h (hN.st.1 _ _ _ (by show _ ∧ _; omega)) dX13_hands_53 ?_
    refine ca_aload_nr h dX13_hands_56 rfl ?_
    refine ca_iconst h dX13_hands_57 ik_m1 ?_
    refine pi_X13_96 h (hN.st.1 _ _ _ (by show _ ∧ _; omega)) dX13_hands_58 ?_
    refine ca_aload_nr h dX13_hands_61 rfl ?_
    refine gr_X13_128 h (hN.st.1 _ _ _ (by show _ ∧ _; omega)) (hN.st.2.1 _ _ _ _ _ (by show _ ∧ _; omega) rfl) dX13_hands_62 ?_
    show ch_W X E _ _ _ _ _ _ _ (.ref (S.1 16 48 (40 + m)) :: _)
    refine ca_iload h dX13_hands_65 rfl ?_
    refine ca_aload_nr h dX13_hands_67 rfl ?_
    refine gi_X13_63 h (hN.st.1 _ _ _ (by show _ ∧ _; omega)) dX13_hands_68 ?_
    refine ca_top (y := n 0 0 3) (by (repeat rw [ch_st_at, if_neg (by omega)]); exact hN.clk) ?_
    refine ca_aload_nr h dX13_hands_71 rfl ?_
    refine gi_X13_16 h (hN.st.1 _ _ _ (by show _ ∧ _; omega)) dX13_hands_72 ?_
    refine ca_top (y := n 0 0 6) (by (repeat rw [ch_st_at, if_neg (by omega)]); exact hN.pp) ?_
    refine ca_iadd h dX13_hands_75 ?_
    refine oa_iast h (j := s) rfl (hN.st.1 _ _ _ (by show _ ∧ _; omega)) rfl (by omega) (by decide) dX13_hands_76 ?_
    refine ca_aload_nr h dX13_hands_77 rfl ?_
    refine gr_X13_38 h (hN.st.1 _ _ _ (by show _ ∧ _; omega)) (hN.st.2.1 _ _ _ _ _ (by show _ ∧ _; omega) rfl) dX13_hands_78 ?_
    show ch_W X E _ _ _ _ _ _ _ (.ref (S.1 16 24 2) :: _)
    refine ca_iload h dX13_hands_81 rfl ?_
    refine oa_aald h (j := s) rfl (by decide) (hN.st.1 _ _ _ (by show _ ∧ _; omega)) rfl (by omega) (by decide) (hN.st.2.1 _ _ _ _ _ (by show _ ∧ _; omega) (o_rt242 (by omega))) dX13_hands_83 ?_
    show ch_W X E _ _ _ _ _ _ _ (.ref (S.1 16 48 (16 + s)) :: _)
    refine ca_iload_n h dX13_hands_84 rfl ?_
    refine ca_dup2 h dX13_hands_85 rfl rfl ?_
    refine oa_iald h (j := t) rfl (hN.st.1 _ _ _ (by show _ ∧ _; omega)) rfl (by omega) (by decide) dX13_hands_86 ?_
    refine ca_top (y := n 2 (8 * s + t) 2) (by (repeat rw [ch_st_at, if_neg (by omega)]); exact (hN.su (by omega) (by omega))) ?_
    refine ca_iconst h dX13_hands_87 ik_1 ?_
    refine ca_iadd h dX13_hands_88 ?_
    refine oa_iast h (j := t) rfl (hN.st.1 _ _ _ (by show _ ∧ _; omega)) rfl (by omega) (by decide) dX13_hands_89 ?_
    refine ca_vreturn h hR dX13_hands_90 ?_
    obtain ⟨n2, hn2⟩ : ∃ n2, n2 = k_cnt (k_cnt n 0) 1 := ⟨_, rfl⟩
    obtain ⟨w2, hw0⟩ : ∃ w2, w2 = up (up w (10 + 0) (w (10 + 0) + 1)) (10 + 1) ((up w (10 + 0) (w (10 + 0) + 1)) (10 + 1) + 1) := ⟨_, rfl⟩
    have hw2 : ∀ i, i < 10 ∨ 210 ≤ i → w2 i = w i := fun i hi => by rw [hw0, up_n (by omega), up_n (by omega)]
    have hr2 : r_N n2 w2 := by rw [hn2, hw0]; exact r_N_tot (r_N_tot hN.rn (by decide)) (by decide)
    have hsel : n2 = if k_isb n m (nI t) (n 0 0 3) = true then k_cnt (k_cnt n 0) 1 else k_cnt n 0 := by rw [k_isb_c (by omega), decide_eq_false (Int32.not_lt.mpr (Int32.not_lt.mp c_33)), hn2]; rfl
    have e0 : n2 0 = n 0 := by rw [hn2]; rw [k_cnt_0, k_cnt_0]
    have e3 : n2 3 = n 3 := by rw [hn2]; rw [k_cnt_3, k_cnt_3]
    have e1 : n2 1 = n 1 := by rw [hn2]; unfold k_cnt; rw [nw_k (by decide), nw_k (by decide)]
    have e2 : n2 2 = n 2 := by rw [hn2]; unfold k_cnt; rw [nw_k (by decide), nw_k (by decide)]
    have ec : k_cc n2 = k_cc n := k_cc_0 e0
    have em : k_mc n2 = k_mc n := k_mc_0 e0
    obtain ⟨v, hv⟩ : ∃ v, v = n 0 0 3 + n 0 0 6 := ⟨_, rfl⟩
    have hr5 : r_N (k_hom n2 m (nI t) v) (r_hom w2 m s (nI t) v) := r_N_hom hr2 (by rw [em]; exact hm) (by rw [e3]; exact ht) (by rw [e3]; exact h5) (by omega) (by rw [ec]; exact htc)
    have hc5 := k_hom_c (n := n2) (i := m) (s := s) (t := nI t) (v := v) (by omega) (by rw [e3]; exact h5)
    have k5 : ∀ kd, kd ≠ 3 → kd ≠ 6 → k_hom n2 m (nI t) v kd = n2 kd := fun kd q3 q6 => by rw [hc5, nw_k q3, nw_k q3, nw_k q3, nw_k q6]
    have hrel5 : ¬ k_hom n2 m (nI t) v 2 (8 * s + t) 0 = 0 := by rw [k5 2 (by decide) (by decide), e2]; exact hrel
    obtain ⟨r, hr, ea, eb⟩ := hr5.2.2.2.1.2.2.2.1 s t (by omega) (by omega) hrel5
    have hr24 := r_24 hr5
    have c5 : k_cc (k_hom n2 m (nI t) v) = k_cc n := by rw [k_cc_0 (k5 0 (by decide) (by decide)), ec]
    refine ⟨rfl, rfl, o_f16_st (o_f16_st (o_f16_st (o_f16_st (o_f16_st (o_f16_st (o_f16_st (o_f16_0))))))), up (r_hom w2 m s (nI t) v) (90 + 5 * r + (2 + 1)) (n 2 (8 * s + t) 2 + 1), ?_⟩
    rw [k_ho_eq (n := n) (i := m) (s := s) (t := t) (n2 := n2) (by omega) (by omega) h5 hsel, ← hv, k5 2 (by decide) (by decide), e2]
    refine o_NW_mk hN.st ?_ ?_ (r_N_rel hr5 (by omega) (by omega) hr ea eb (Or.inr (Or.inl rfl)) hrel5) ?_ ?_
    · rw [k_cc_0 (nw_k (by decide)), c5]
    · rw [k_mc_0 (nw_k (by decide)), k_mc_0 (k5 0 (by decide) (by decide)), em]
    · refine o_R_48 (o_R_w (o_R_bar (o_R_mob (o_R_mob (o_R_mob (o_R_48 (o_R_48 hN.R (by decide)) (by decide)) (by decide)) (by decide)) (by decide)) (by omega)) (fun i hi => o_homw (by omega) (by omega) hw2 i hi)) (by omega)
    · have hA2 : o_A n2 (ch_st (ch_st μ 16 48 32 0 (μ 16 48 32 0 + 1)) 16 48 32 1 ((ch_st μ 16 48 32 0 (μ 16 48 32 0 + 1)) 16 48 32 1 + 1)) := by rw [hn2]; exact o_A_tot (o_A_tot hN.A hc8 (by decide) rfl) (by rw [k_cc_0 (k_cnt_0 _ _)]; exact hc8) (by decide) rfl
      have hA5 : o_A (k_hom n2 m (nI t) v) _ := o_A_bar (m := m) (c := s) (v := v) (o_A_mob (m := m) (f := 8) (v := -1) (o_A_mob (m := m) (f := 7) (v := 0) (o_A_mob (m := m) (f := 5) (v := nI t) (o_A_n hA2 (k5 1 (by decide) (by decide)) (k5 2 (by decide) (by decide)) (k5 7 (by decide) (by decide)) (k_cc_0 (k5 0 (by decide) (by decide)))) (by rw [c5]; exact hc8)) (by rw [c5]; exact hc8)) (by rw [c5]; exact hc8)) (by rw [c5]; exact hc8)
      exact o_A_rel (f := 2) hA5 (by rw [c5]; exact hc8) (by omega) (by omega) (Or.inr (Or.inl rfl)) (fun z => by cases z)
