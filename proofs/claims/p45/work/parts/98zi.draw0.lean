/-! THE LAW DRAWS A NETWORK -/
def a_C (E : ch_E) : Nat := 1 + a_md (a_cl E 0) 5
def a_cv (E : ch_E) (c f : Nat) : Nat :=
  if f = 0 then a_md (a_cl E (1 + c)) 1000 else if f = 1 then a_md (a_cl E (1 + c) >>> (4 &&& 31)) 1000 else if f = 2 then 40 + a_md (a_cl E (1 + c) >>> (8 &&& 31)) 60 else if f = 3 then 1 + a_md (a_cl E (1 + c) >>> (10 &&& 31)) 12
  else if f = 4 then 1 + a_md (a_cl E (1 + c) >>> (12 &&& 31)) 2 else if f = 5 then a_md (a_cl E (1 + c) >>> (14 &&& 31)) 3 else if f = 6 then a_md (a_cl E (1 + c) >>> (16 &&& 31)) 30 else a_md (a_cl E (1 + c) >>> (18 &&& 31)) 60
theorem a_C5 (E : ch_E) : 1 ≤ a_C E ∧ a_C E ≤ 5 := by
  have := a_md_lt (x := a_cl E 0) (show 0 < 5 by decide)
  unfold a_C; omega
theorem a_cv_b (E : ch_E) (c : Nat) : p_b8 (a_cv E c) := by
  have b0 := a_md_lt (x := a_cl E (1 + c)) (show 0 < 1000 by decide)
  have b1 := a_md_lt (x := a_cl E (1 + c) >>> (4 &&& 31)) (show 0 < 1000 by decide)
  have b2 := a_md_lt (x := a_cl E (1 + c) >>> (8 &&& 31)) (show 0 < 60 by decide)
  have b3 := a_md_lt (x := a_cl E (1 + c) >>> (10 &&& 31)) (show 0 < 12 by decide)
  have b4 := a_md_lt (x := a_cl E (1 + c) >>> (12 &&& 31)) (show 0 < 2 by decide)
  have b5 := a_md_lt (x := a_cl E (1 + c) >>> (14 &&& 31)) (show 0 < 3 by decide)
  have b6 := a_md_lt (x := a_cl E (1 + c) >>> (16 &&& 31)) (show 0 < 30 by decide)
  have b7 := a_md_lt (x := a_cl E (1 + c) >>> (18 &&& 31)) (show 0 < 60 by decide)
  have e0 : a_cv E c 0 = a_md (a_cl E (1 + c)) 1000 := rfl
  have e1 : a_cv E c 1 = a_md (a_cl E (1 + c) >>> (4 &&& 31)) 1000 := rfl
  have e2 : a_cv E c 2 = 40 + a_md (a_cl E (1 + c) >>> (8 &&& 31)) 60 := rfl
  have e3 : a_cv E c 3 = 1 + a_md (a_cl E (1 + c) >>> (10 &&& 31)) 12 := rfl
  have e4 : a_cv E c 4 = 1 + a_md (a_cl E (1 + c) >>> (12 &&& 31)) 2 := rfl
  have e5 : a_cv E c 5 = a_md (a_cl E (1 + c) >>> (14 &&& 31)) 3 := rfl
  have e6 : a_cv E c 6 = a_md (a_cl E (1 + c) >>> (16 &&& 31)) 30 := rfl
  have e7 : a_cv E c 7 = a_md (a_cl E (1 + c) >>> (18 &&& 31)) 60 := rfl
  unfold p_b8
  rw [e0, e1, e2, e3, e4, e5, e6, e7]
  omega
/-- drawn as far as n cells, the hystereses hy, the settings sv -/
def o_dS (E : ch_E) (n : Nat) (hy : Nat → Nat → Int32) (sv : Nat → Nat) (S0 : ch_S) (μ0 : ch_M) (S : ch_S) (μ : ch_M) : Prop :=
  (∀ k, k ≠ 16 → S.1 k = S0.1 k ∧ S.2.1 k = S0.2.1 k ∧ S.2.2 k = S0.2.2 k ∧ μ k = μ0 k) ∧ o_St S n 0 ∧ (μ 16 22 0 0 = nI (a_C E) ∧ μ 16 22 0 1 = 0 ∧ μ 16 22 0 2 = 0) ∧ (∀ j, j < 6 → μ 16 22 0 (3 + j) = nI (sv j)) ∧
  (∀ c f, c < n → f < 8 → μ 16 48 c f = nI (a_cv E c f)) ∧ (∀ a b, a < 8 → b < 8 → μ 16 48 (8 + a) b = hy a b) ∧ ∀ i b, 16 ≤ i → i < 34 → μ 16 48 i b = 0
def o_hyk (C : Nat) (hy : Nat → Nat → Int32) : Prop := ∀ a b, hy a b = -1 ∨ (a < C ∧ b < C ∧ a ≠ b ∧ ∃ d, d ≤ 30 ∧ hy a b = nI d)
/-- what drawn answers -/
def o_DR (E : ch_E) (S0 : ch_S) (μ0 : ch_M) : Option Value → ch_S → ch_M → Prop := fun v' S' μ' => v' = some (.ref (S'.1 16 22 0)) ∧ ∃ hy sv, o_dS E (a_C E) hy sv S0 μ0 S' μ' ∧ o_hyk (a_C E) hy ∧ p_b6 sv
section DR
variable {E : ch_E} {n : Nat} {hy : Nat → Nat → Int32} {sv : Nat → Nat} {S0 S : ch_S} {μ0 μ : ch_M}
theorem o_dS_hy (h : o_dS E n hy sv S0 μ0 S μ) (hn : n ≤ 8) {a b : Nat} {v : Int32} (ha : a < 8) (hb : b < 8) : o_dS E n (fun x y => if x = a ∧ y = b then v else hy x y) sv S0 μ0 S (ch_st μ 16 48 (8 + a) b v) := by
  obtain ⟨h1, h2, h3, h4, h5, h6, h7⟩ := h
  have st : ∀ kd i j, kd ≠ 48 → ch_st μ 16 48 (8 + a) b v 16 kd i j = μ 16 kd i j := fun kd i j g => by rw [ch_st_at, if_neg (by omega)]
  refine ⟨fun k hk => ⟨(h1 k hk).1, (h1 k hk).2.1, (h1 k hk).2.2.1, by unfold ch_st; rw [up_n hk]; exact (h1 k hk).2.2.2⟩, h2, by rw [st _ _ _ (by decide), st _ _ _ (by decide), st _ _ _ (by decide)]; exact h3, fun j hj => by rw [st _ _ _ (by decide)]; exact h4 j hj, fun c f hc hf => by rw [ch_st_at, if_neg (by omega)]; exact h5 c f hc hf, fun x y hx hy' => ?_, fun i y h16 h34 => by rw [ch_st_at, if_neg (by omega)]; exact h7 i y h16 h34⟩
  rw [ch_st_at]
  dsimp only
  by_cases g : x = a ∧ y = b
  · rw [if_pos ⟨rfl, rfl, by omega, g.2⟩, if_pos g]
  · rw [if_neg (by omega), if_neg g]; exact h6 x y hx hy'
theorem o_dS_sv (h : o_dS E n hy sv S0 μ0 S μ) {s j v : Nat} (hs : s = 3 + j) : o_dS E n hy (fun x => if x = j then v else sv x) S0 μ0 S (ch_st μ 16 22 0 s (nI v)) := by
  subst hs
  obtain ⟨h1, h2, h3, h4, h5, h6, h7⟩ := h
  have st : ∀ i j', ch_st μ 16 22 0 (3 + j) (nI v) 16 48 i j' = μ 16 48 i j' := fun i j' => by rw [ch_st_at, if_neg (by omega)]
  refine ⟨fun k hk => ⟨(h1 k hk).1, (h1 k hk).2.1, (h1 k hk).2.2.1, by unfold ch_st; rw [up_n hk]; exact (h1 k hk).2.2.2⟩, h2, by rw [ch_st_at, if_neg (by omega), ch_st_at, if_neg (by omega), ch_st_at, if_neg (by omega)]; exact h3, fun x hx => ?_, fun c f hc hf => by rw [st]; exact h5 c f hc hf, fun x y hx hy' => by rw [st]; exact h6 x y hx hy', fun i y a b => by rw [st]; exact h7 i y a b⟩
  rw [ch_st_at]
  dsimp only
  by_cases g : x = j
  · rw [if_pos ⟨rfl, rfl, rfl, by omega⟩, if_pos g]
  · rw [if_neg (by omega), if_neg g]; exact h4 x hx
theorem o_dS_cg {hy' : Nat → Nat → Int32} (h : o_dS E n hy sv S0 μ0 S μ) (e : ∀ a b, a < 8 → b < 8 → hy a b = hy' a b) : o_dS E n hy' sv S0 μ0 S μ := by
  obtain ⟨h1, h2, h3, h4, h5, h6, h7⟩ := h
  exact ⟨h1, h2, h3, h4, h5, fun a b ha hb => (h6 a b ha hb).trans (e a b ha hb), h7⟩
theorem o_hyk_up {C a b d : Nat} (h : o_hyk C hy) (ha : a < C) (hb : b < C) (hab : a ≠ b) (hd : d ≤ 30) : o_hyk C (fun x y => if x = a ∧ y = b then nI d else hy x y) := fun x y => by
  by_cases g : x = a ∧ y = b
  · right
    obtain ⟨rfl, rfl⟩ := g
    exact ⟨ha, hb, hab, d, hd, if_pos ⟨rfl, rfl⟩⟩
  · have := h x y
    rwa [show hy x y = (fun x y => if x = a ∧ y = b then nI d else hy x y) x y from (if_neg g).symm] at this
theorem o_St_row {S' : ch_S} (h : o_St S n 0) (hn : n < 8) (e1 : ∀ k kd i, ¬ (k = 16 ∧ kd = 48 ∧ i = n) → S'.1 k kd i = S.1 k kd i ∧ (S'.2.1 k kd i ↔ S.2.1 k kd i)) (e2 : ∀ k kd i j, ¬ (k = 16 ∧ kd = 24 ∧ i = 0 ∧ j = n) → ¬ (k = 16 ∧ kd = 48 ∧ i = n) → S'.2.2 k kd i j = S.2.2 k kd i j)
    (v : S'.2.1 16 48 n) (r : S'.2.2 16 24 0 n = some (S'.1 16 48 n)) : o_St S' (n + 1) 0 := by
  obtain ⟨h1, h2, F, hF⟩ := h
  refine ⟨fun k kd i hv => ?_, fun k kd i j a hv hr => ?_, F, fun kd i hi => by rw [(e1 18 kd i (by omega)).2]; exact hF kd i hi⟩
  · by_cases g : k = 16 ∧ kd = 48 ∧ i = n
    · obtain ⟨rfl, rfl, rfl⟩ := g; exact v
    · rw [(e1 k kd i g).2]
      refine h1 k kd i ?_
      unfold o_V at hv ⊢
      split at hv <;> simp_all <;> omega
  · by_cases g : k = 16 ∧ kd = 24 ∧ i = 0 ∧ j = n
    · obtain ⟨rfl, rfl, rfl, rfl⟩ := g
      rw [o_rt240 (by omega)] at hr
      cases hr
      exact r
    · have hold : o_V n 0 k kd i ∧ o_rt n 0 k kd i j = some a ∧ ¬ (k = 16 ∧ kd = 48 ∧ i = n) ∧ ¬ (a.1 = 16 ∧ a.2.1 = 48 ∧ a.2.2 = n) := by
        have hkd : kd = 22 ∨ kd = 24 ∨ kd = 25 ∨ kd = 48 := by
          unfold o_V at hv
          split at hv <;> first | omega | (exfalso; omega) | exact hv.elim
        rcases hkd with rfl | rfl | rfl | rfl
        · obtain ⟨rfl, rfl⟩ : k = 16 ∧ i = 0 := hv
          refine ⟨⟨rfl, rfl⟩, hr, by omega, ?_⟩
          unfold o_rt at hr
          simp only at hr
          split at hr <;> first | (cases hr; dsimp only; omega) | cases hr
        · obtain ⟨rfl, hv⟩ : k = 16 ∧ (i < 4 ∨ (8 ≤ i ∧ i < 8 + 0)) := hv
          have hi4 : i < 4 := by omega
          by_cases c : i < 4 ∧ (i = 0 → j < n + 1) ∧ j < 8
          · rw [o_rt24 c] at hr
            have hj : i = 0 → j < n := fun z => by
              have := c.2.1 z
              omega
            cases hr
            refine ⟨⟨rfl, hv⟩, o_rt24 ⟨c.1, hj, c.2.2⟩, by omega, ?_⟩
            dsimp only
            rintro ⟨-, -, z⟩
            by_cases g0 : i = 0
            · have := hj g0; subst g0; omega
            · omega
          · have : o_rt (n + 1) 0 16 24 i j = none := if_neg c
            rw [this] at hr
            cases hr
        · obtain ⟨rfl, rfl⟩ : k = 16 ∧ i = 0 := hv
          have : o_rt (n + 1) 0 16 25 0 j = none := by unfold o_rt; exact if_neg (Nat.not_lt_zero j)
          rw [this] at hr
          cases hr
        · have : o_rt (n + 1) 0 k 48 i j = none := rfl
          rw [this] at hr
          cases hr
      obtain ⟨o1, o2, o3, o4⟩ := hold
      rw [e2 k kd i j g o3, h2 k kd i j a o1 o2, (e1 a.1 a.2.1 a.2.2 o4).1]
theorem o_dS_row {S1 S3 : ch_S} {μ1 μ3 : ch_M} (h : o_dS E n hy sv S0 μ0 S μ) (hn : n < 5) (hw : o_nw 16 48 n S μ S1 μ1) (hr : o_rfd 16 24 0 n (S1.1 16 48 n) S1 S3) (hm : ∀ k kd i, ¬ (k = 16 ∧ kd = 48 ∧ i = n) → μ3 k kd i = μ1 k kd i) (hv : ∀ f, f < 8 → μ3 16 48 n f = nI (a_cv E n f)) : o_dS E (n + 1) hy sv S0 μ0 S3 μ3 := by
  obtain ⟨h1, h2, h3, h4, h5, h6, h7⟩ := h
  have em : ∀ k kd i, ¬ (k = 16 ∧ kd = 48 ∧ i = n) → μ3 k kd i = μ k kd i := fun k kd i g => (hm k kd i g).trans (hw.2.2 k kd i g).2.2.2
  refine ⟨fun k hk => ⟨?_, ?_, ?_, ?_⟩, o_St_row h2 (by omega) (fun k kd i g => by rw [hr.1, hr.2.1]; exact ⟨(hw.2.2 k kd i g).1, (hw.2.2 k kd i g).2.1⟩) (fun k kd i j g1 g2 => by rw [hr.2.2.2 k kd i j g1, (hw.2.2 k kd i g2).2.2.1]) (by rw [hr.2.1]; exact hw.1) (by rw [hr.2.2.1, hr.1]), by rw [em 16 22 0 (by omega)]; exact h3, fun j hj => by rw [em 16 22 0 (by omega)]; exact h4 j hj, fun c f hc hf => ?_, fun a b ha hb => by rw [em 16 48 (8 + a) (by omega)]; exact h6 a b ha hb, fun i b a c => by rw [em 16 48 i (by omega)]; exact h7 i b a c⟩
  · rw [hr.1, o_nw_a hw hk]; exact (h1 k hk).1
  · rw [hr.2.1, o_nw_v hw hk]; exact (h1 k hk).2.1
  · rw [← (h1 k hk).2.2.1, ← o_nw_r hw hk]
    funext x y z
    exact hr.2.2.2 k x y z (by omega)
  · rw [← (h1 k hk).2.2.2]
    funext x y
    exact em k x y (by omega)
  · by_cases g : c = n
    · subst g; exact hv f hf
    · rw [em 16 48 c (by omega)]; exact h5 c f (by omega) hf
end DR
