/-! THE LAW'S OWN MODEL: a mobile added -/
theorem r_amW_M {w : Nat → Int32} {M f : Nat} {x y vx vy : Int32} (hf : f < 91) : r_amW w M x y vx vy (210 + 91 * M + f) = if f = 0 then x else if f = 1 then y else if f = 2 then vx else if f = 3 then vy else if f = 5 ∨ f = 8 then -1 else 0 := by
  unfold r_amW r_end r_wd
  by_cases h8 : f = 8
  · subst h8; rw [up_s]; rfl
  rw [up_n (by omega)]
  by_cases h6 : f = 6
  · subst h6; rw [up_s]; rfl
  rw [up_n (by omega)]
  by_cases h5 : f = 5
  · subst h5; rw [up_s]; rfl
  rw [up_n (by omega)]
  by_cases h4 : f = 4
  · subst h4; rw [up_s]; rfl
  rw [up_n (by omega)]
  by_cases h3 : f = 3
  · subst h3; rw [up_s]; rfl
  rw [up_n (by omega)]
  by_cases h2 : f = 2
  · subst h2; rw [up_s]; rfl
  rw [up_n (by omega)]
  by_cases h1 : f = 1
  · subst h1; rw [up_s]; rfl
  rw [up_n (by omega)]
  by_cases h0 : f = 0
  · subst h0; rw [up_s]; rfl
  rw [up_n (by omega), if_neg h0, if_neg h1, if_neg h2, if_neg h3, if_neg (fun z => z.elim h5 h8)]
  unfold r_zr
  rw [if_pos (by omega)]
theorem r_amW_o {w : Nat → Int32} {M i : Nat} {x y vx vy : Int32} (h : i < 210 + 91 * M ∨ 210 + 91 * M + 91 ≤ i) (h2 : i ≠ 2) : r_amW w M x y vx vy i = w i := by
  unfold r_amW r_end r_wd
  rw [up_n (by omega), up_n (by omega), up_n (by omega), up_n (by omega), up_n (by omega), up_n (by omega), up_n (by omega), up_n (by omega)]
  unfold r_zr
  rw [if_neg (by omega), up_n h2]
theorem o_NW_am {n : ch_N} {w : Nat → Int32} {S S' : ch_S} {μ μ' : ch_M} {M : Nat} {x y vx vy : Int32} (h : o_NW n w S μ) (hM : M = k_mc n) (hM12 : M < 12) (hx : ¬ x < 0 ∧ ¬ 999 < x) (hy : ¬ y < 0 ∧ ¬ 999 < y) (hF : ∃ F, ∀ kd i, F ≤ i → ¬ S'.2.1 18 kd i)
    (h18 : ∀ kd i, S.2.1 18 kd i → S'.2.1 18 kd i ∧ S'.1 18 kd i = S.1 18 kd i ∧ μ' 18 kd i = μ 18 kd i)
    (h16 : ∀ kd i, ¬ (kd = 48 ∧ i = 40 + M) → ¬ (kd = 24 ∧ i = 8 + M) → ¬ (kd = 23 ∧ i = M) → S'.1 16 kd i = S.1 16 kd i ∧ (S'.2.1 16 kd i ↔ S.2.1 16 kd i) ∧ (∀ j, ¬ (kd = 25 ∧ i = 0 ∧ j = M) → S'.2.2 16 kd i j = S.2.2 16 kd i j) ∧ ∀ j, ¬ (kd = 22 ∧ i = 0 ∧ j = 1) → μ' 16 kd i j = μ 16 kd i j)
    (hv : S'.2.1 16 23 M ∧ S'.2.1 16 48 (40 + M) ∧ S'.2.1 16 24 (8 + M)) (hr25 : S'.2.2 16 25 0 M = some (S'.1 16 23 M)) (hr11 : S'.2.2 16 23 M 11 = some (S'.1 16 48 (40 + M))) (hr12 : S'.2.2 16 23 M 12 = some (S'.1 16 24 (8 + M)))
    (hm1 : μ' 16 22 0 1 = nI (M + 1)) (hf : ∀ f, f < 11 → μ' 16 23 M f = if f = 0 then x else if f = 1 then y else if f = 2 then vx else if f = 3 then vy else if f = 5 ∨ f = 8 then -1 else 0) (h48 : ∀ c, μ' 16 48 (40 + M) c = 0)
    (hrep : ∀ c, c < 8 → ∃ id, S'.2.1 18 40 id ∧ S'.2.2 16 24 (8 + M) c = some (S'.1 18 40 id)) : o_NW (k_amN n M x y vx vy) (r_amW w M x y vx vy) S' μ' := by
  have hc8 := h.c8
  have ek : ∀ kd, kd ≠ 0 → kd ≠ 3 → kd ≠ 5 → kd ≠ 6 → k_amN n M x y vx vy kd = n kd := fun kd a b c d => by
    unfold k_amN k_plc
    rw [k_idle_ne b c d, nw_k b, nw_k b, nw_k b, nw_k b, nw_k a]
  have e0 : ∀ j, k_amN n M x y vx vy 0 0 j = if j = 2 then nI (M + 1) else n 0 0 j := fun j => by
    unfold k_amN k_plc
    rw [k_idle_ne (by decide) (by decide) (by decide), nw_k (by decide), nw_k (by decide), nw_k (by decide), nw_k (by decide), nw_at]
    by_cases g : j = 2
    · rw [if_pos ⟨rfl, rfl, g⟩, if_pos g]
    · rw [if_neg (fun z => g z.2.2), if_neg g]
  have ec : k_cc (k_amN n M x y vx vy) = k_cc n := by unfold k_cc; rw [e0, if_neg (by decide)]
  have em : k_mc (k_amN n M x y vx vy) = M + 1 := by unfold k_mc; rw [e0, if_pos rfl, nI_clamp (by omega)]
  have N : ∀ kd i, o_V (k_cc n) (M + 1) 16 kd i → (kd = 48 ∧ i = 40 + M) ∨ (kd = 24 ∧ i = 8 + M) ∨ (kd = 23 ∧ i = M) ∨ (¬ (kd = 48 ∧ i = 40 + M) ∧ ¬ (kd = 24 ∧ i = 8 + M) ∧ ¬ (kd = 23 ∧ i = M) ∧ o_V (k_cc n) M 16 kd i) := fun kd i hv => by
    unfold o_V at hv ⊢
    split at hv
    · simp_all
    · simp at hv ⊢; omega
    · simp at hv ⊢; omega
    · simp_all
    · simp at hv ⊢; omega
    · exact hv.elim
  have k16 : ∀ {k kd i cc M}, o_V cc M k kd i → k = 16 := by
    intro k kd i cc M hv
    unfold o_V at hv
    split at hv <;> first | exact hv.1 | exact hv.elim
  have st := h.st
  rw [← hM] at st
  refine o_NW_mk (cc := k_cc n) (M := M + 1) ⟨fun k kd i hV => ?_, fun k kd i j a hV hr => ?_, hF⟩ ec em (r_N_am h.rn hM hM12 hx hy) ⟨fun j hj => ?_, fun m hm => ?_⟩ ?_
  · have e := k16 hV; subst e
    rcases N kd i hV with ⟨rfl, rfl⟩ | ⟨rfl, rfl⟩ | ⟨rfl, rfl⟩ | ⟨g1, g2, g3, g4⟩
    · exact hv.2.1
    · exact hv.2.2
    · exact hv.1
    · exact (h16 kd i g1 g2 g3).2.1.mpr (st.1 _ _ _ g4)
  · have e := k16 hV; subst e
    rcases N kd i hV with ⟨rfl, rfl⟩ | ⟨rfl, rfl⟩ | ⟨rfl, rfl⟩ | ⟨g1, g2, g3, g4⟩
    · cases hr
    · have hr2 : (if 8 + M < 4 ∧ (8 + M = 0 → j < k_cc n) ∧ j < 8 then some (16, 48, 8 * (8 + M) + j) else none) = some a := hr
      rw [if_neg (by omega)] at hr2; cases hr2
    · unfold o_rt at hr
      simp only at hr
      split at hr
      · cases hr; exact hr11
      · cases hr; exact hr12
      · cases hr
    · have e := h16 kd i g1 g2 g3
      by_cases z : kd = 25 ∧ i = 0 ∧ j = M
      · obtain ⟨rfl, rfl, rfl⟩ := z
        rw [o_rt25 (by omega)] at hr
        cases hr; exact hr25
      · have hr' : o_rt (k_cc n) M 16 kd i j = some a := by
          unfold o_V at g4
          split at g4
          · exact hr
          · exact hr
          · exact hr
          · have hr2 : (if j < M + 1 then some (16, 23, j) else none) = some a := hr
            have hi0 : i = 0 := g4.2
            by_cases hj : j < M
            · rw [if_pos (by omega)] at hr2; rw [← hr2]; exact if_pos hj
            · by_cases hj2 : j < M + 1
              · exact absurd ⟨rfl, hi0, by omega⟩ z
              · rw [if_neg hj2] at hr2; cases hr2
          · exact hr
          · exact g4.elim
        have q := st.2.1 _ _ _ _ _ g4 hr'
        have ht : S'.1 a.1 a.2.1 a.2.2 = S.1 a.1 a.2.1 a.2.2 := by
          unfold o_V at g4
          unfold o_rt at hr'
          split at hr'
          · split at hr' <;> first | (cases hr'; dsimp only; exact (h16 _ _ (by omega) (by omega) (by omega)).1) | cases hr'
          · have hi : i < M := by simpa using g4
            split at hr' <;> first | (cases hr'; dsimp only; exact (h16 _ _ (by omega) (by omega) (by omega)).1) | cases hr'
          · split at hr'
            · cases hr'; dsimp only; exact (h16 _ _ (by omega) (by omega) (by omega)).1
            · cases hr'
          · split at hr'
            · cases hr'; dsimp only; exact (h16 _ _ (by omega) (by omega) (by omega)).1
            · cases hr'
          · cases hr'
        rw [e.2.2.1 j z, q, ht]
  · have hw : ∀ i, i < 10 → i ≠ 2 → r_amW w M x y vx vy i = w i := fun i hi h2 => r_amW_o (by omega) h2
    by_cases e : j = 1
    · subst e
      rw [hm1]
      show nI (M + 1) = r_amW w M x y vx vy 2
      unfold r_amW r_end r_wd
      rw [up_n (by omega), up_n (by omega), up_n (by omega), up_n (by omega), up_n (by omega), up_n (by omega), up_n (by omega), up_n (by omega)]
      unfold r_zr
      rw [if_neg (by omega), up_s]
    · rw [(h16 22 0 (by omega) (by omega) (by omega)).2.2.2 j (by omega), hw _ (o_hd_lt hj) (by unfold o_hd; split <;> omega)]
      exact h.R.1 j hj
  · by_cases e : m = M
    · subst e
      refine ⟨fun f hf' => by rw [hf f hf', r_amW_M (by omega)], fun c hc => by rw [h48, r_amW_M (by omega), if_neg (by omega), if_neg (by omega), if_neg (by omega), if_neg (by omega), if_neg (by omega)], fun c hc => ?_⟩
      obtain ⟨id, g1, g2⟩ := hrep c hc
      refine ⟨0, id, ?_, by decide, g1, g2, fun t ht => absurd ht (Nat.not_lt_zero _)⟩
      rw [r_amW_M (by omega), if_neg (by omega), if_neg (by omega), if_neg (by omega), if_neg (by omega), if_neg (by omega)]; rfl
    · have hmM : m < k_mc n := by omega
      obtain ⟨g1, g2, g3⟩ := h.R.2 m hmM
      have hw : ∀ f, f < 91 → r_amW w M x y vx vy (210 + 91 * m + f) = w (210 + 91 * m + f) := fun f hf' => r_amW_o (by omega) (by omega)
      refine ⟨fun f hf' => by rw [(h16 23 m (by omega) (by omega) (by omega)).2.2.2 f (by omega), hw f (by omega)]; exact g1 f hf', fun c hc => by rw [(h16 48 (40 + m) (by omega) (by omega) (by omega)).2.2.2 c (by omega), hw _ (by omega)]; exact g2 c hc, fun c hc => ?_⟩
      obtain ⟨N', id, q1, q2, q3, q4, q5⟩ := g3 c hc
      obtain ⟨p1, p2, p3⟩ := h18 _ _ q3
      exact ⟨N', id, by rw [hw _ (by omega)]; exact q1, q2, p1, by rw [(h16 24 (8 + m) (by omega) (by omega) (by omega)).2.2.1 c (by omega), p2]; exact q4, fun t ht => by rw [p3, hw _ (by omega)]; exact q5 t ht⟩
  · refine o_A_m (o_A_n h.A (ek 1 (by decide) (by decide) (by decide) (by decide)) (ek 2 (by decide) (by decide) (by decide) (by decide)) (ek 7 (by decide) (by decide) (by decide) (by decide)) ec) (by rw [ec]; exact hc8) (fun i hi => ?_)
    funext j
    exact (h16 48 i (by omega) (by omega) (by omega)).2.2.2 j (by omega)
