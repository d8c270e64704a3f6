/-! THE REFERENCE AS A WHOLE (r_J): its network, snapshot, history, text; what records, undoes, saves -/
theorem r_N_row {n : ch_N} {w w' : Nat → Int32} (h : r_N n w) (hw : ∀ j, j < 1302 → w' j = w j) : r_N n w' := by
  have h24 := r_24 h
  have hcc := h.2.2.2.2.2.2.1
  have hmc := h.2.2.2.2.2.1
  have h58 : ∀ i c, i < 13 → c < 8 → Int32.toNatClampNeg (n 5 i c) ≤ 8 := fun i c hi hc => (r_c58 h hi hc).2
  obtain ⟨a1, ⟨a2, aK⟩, a3, ⟨⟨b1, b2⟩, b3, b4, b5, b6⟩, aM, aW⟩ := h
  refine ⟨fun j hj => by rw [hw j (by omega)]; exact a1 j hj, ⟨fun t ht => by rw [hw _ (by omega)]; exact a2 t ht, aK⟩, fun c f hc hf => by rw [hw _ (by omega)]; exact a3 c f hc hf, ?_, fun i hi => ?_, aW⟩
  · unfold r_R
    rw [hw 1 (by omega)]
    refine ⟨⟨b1, b2⟩, fun r hr => ?_, fun r t hr ht e1 e2 => ?_, fun a b ha hb hz => ?_, b6⟩
    · obtain ⟨a, b, g⟩ := b3 r hr
      refine ⟨a, b, ?_⟩
      rw [hw _ (by omega), hw _ (by omega), hw _ (by omega), hw _ (by omega), hw _ (by omega)]
      exact g
    · rw [hw _ (by omega), hw (90 + 5 * t) (by omega)] at e1
      rw [hw _ (by omega), hw (90 + 5 * t + 1) (by omega)] at e2
      exact b4 r t hr ht e1 e2
    · obtain ⟨r, hr, g1, g2⟩ := b5 a b ha hb hz
      exact ⟨r, hr, by rw [hw _ (by omega)]; exact g1, by rw [hw _ (by omega)]; exact g2⟩
  · exact r_M_congr (aM i hi) (fun f hf => hw _ (by omega)) rfl rfl rfl rfl rfl (fun _ => rfl) (fun c hc => h58 i c (by omega) hc)
def r_T (tx p : ch_N) : Prop := ∃ L, L ≤ 700 ∧ tx 12 0 0 = nI L ∧ p 22 0 12 = nI L ∧ (∀ i, i < L → p 30 0 i = tx 13 0 i ∧ ∃ b, b < 256 ∧ tx 13 0 i = nI b) ∧ p 22 0 19 = tx 12 0 2
def r_J (n sn tx : ch_N) (F : Int32) (u : Nat) (hs : Nat → ch_N) (p : ch_N) : Prop :=
  r_N n (p 23 0) ∧ (p 22 0 7 = F ∧ (F = 0 ∨ F = 1) ∧ (F = 1 → r_N sn (p 26 0))) ∧ (p 22 0 5 = nI u ∧ u ≤ 12 ∧ ∀ i, i < u → r_N (hs i) (fun j => p 27 0 (1302 * i + j))) ∧ r_T tx p
theorem r_J_mk {n n' sn tx : ch_N} {F : Int32} {u : Nat} {hs : Nat → ch_N} {p p' : ch_N} (h : r_J n sn tx F u hs p) (hN : r_N n' (p' 23 0)) (e5 : p' 22 0 5 = p 22 0 5) (e7 : p' 22 0 7 = p 22 0 7) (e12 : p' 22 0 12 = p 22 0 12) (e19 : p' 22 0 19 = p 22 0 19) (e26 : p' 26 0 = p 26 0) (e27 : p' 27 0 = p 27 0) (e30 : p' 30 0 = p 30 0) : r_J n' sn tx F u hs p' := by
  obtain ⟨-, ⟨b1, b2, b3⟩, ⟨c1, c2, c3⟩, ⟨L, d1, d2, d3, d4, d5⟩⟩ := h
  exact ⟨hN, ⟨by rw [e7]; exact b1, b2, fun z => by rw [e26]; exact b3 z⟩, ⟨by rw [e5]; exact c1, c2, fun i hi => by rw [e27]; exact c3 i hi⟩, ⟨L, d1, d2, by rw [e12]; exact d3, fun i hi => by rw [e30]; exact d4 i hi, by rw [e19]; exact d5⟩⟩
theorem r_J_th {n sn tx : ch_N} {F : Int32} {u : Nat} {hs : Nat → ch_N} {p : ch_N} {v : Int32} (h : r_J n sn tx F u hs p) : r_J n sn tx F u hs (nw p 22 0 6 v) := by
  refine r_J_mk h (by rw [nw_k (by decide)]; exact h.1) ?_ ?_ ?_ ?_ (by rw [nw_k (by decide)]) (by rw [nw_k (by decide)]) (by rw [nw_k (by decide)]) <;> exact (nw_at _ _ _ _ _ _ _ _).trans (if_neg (by omega))
theorem r_J_wq {n n' sn tx : ch_N} {F : Int32} {u : Nat} {hs : Nat → ch_N} {μ : ch_M} {a b w : Nat → Int32} {x : Int32} (h : r_J n sn tx F u hs (μ 16)) (hN : r_N n' w) : r_J n' sn tx F u hs (r_wq μ a b x w 16) := by
  have hk : ∀ kd, kd ≠ 23 → kd ≠ 28 → kd ≠ 29 → kd ≠ 22 → r_wq μ a b x w 16 kd = μ 16 kd := fun kd h1 h2 h3 h4 => by rw [r_wq_16, na_k h1]; unfold r_pq; rw [nw_k h4, na_k h3, na_k h2]
  have h22 : ∀ j, j ≠ 10 → r_wq μ a b x w 16 22 0 j = μ 16 22 0 j := fun j hj => by rw [r_wq_16, na_k (by decide)]; unfold r_pq; rw [nw_at, if_neg (fun z => hj z.2.2), na_k (by decide), na_k (by decide)]
  refine r_J_mk h (by rw [r_wq_at]; exact hN) (h22 5 (by decide)) (h22 7 (by decide)) (h22 12 (by decide)) (h22 19 (by decide)) (by rw [hk 26 (by decide) (by decide) (by decide) (by decide)]) (by rw [hk 27 (by decide) (by decide) (by decide) (by decide)]) (by rw [hk 30 (by decide) (by decide) (by decide) (by decide)])
theorem r_wq_up (μ : ch_M) (a b : Nat → Int32) (x : Int32) (w : Nat → Int32) : r_wq μ a b x w = up μ 16 (r_wq μ a b x w 16) := by
  funext k
  by_cases e : k = 16
  · subst e; rw [up_s]
  · rw [up_n e]; unfold r_wq r_wr; rw [up_n e, up_n e]
/-- what a public call of the reference leaves -/
def r_A (v : Option Value) (t : Int32) (n sn tx : ch_N) (F : Int32) (u : Nat) (hs : Nat → ch_N) (S : ch_S) (μ : ch_M) : Option Value → ch_S → ch_M → Prop :=
  ch_FX v S (fun μ' => ∃ p, μ' = up μ 16 p ∧ p 22 0 6 = t ∧ r_J n sn tx F u hs p)
def r_ph (hs : Nat → ch_N) (u : Nat) (n : ch_N) : Nat → ch_N := fun i => if u = 12 then (if i < 11 then hs (i + 1) else n) else (if i < u then hs i else n)
def r_pu (u : Nat) : Nat := if u = 12 then 12 else u + 1
def r_hr (h : Nat → Int32) (k : Nat) : Nat → Int32 := fun i => if i < 1302 * k then h (i + 1302) else h i
theorem r_hr_0 (h : Nat → Int32) : r_hr h 0 = h := by funext i; unfold r_hr; rw [if_neg (by omega)]
theorem r_hr_s (h : Nat → Int32) (k : Nat) : r_cpy (r_hr h k) k (fun j => r_hr h k (1302 * (k + 1) + j)) 1302 = r_hr h (k + 1) := by
  funext i
  unfold r_cpy r_hr
  by_cases g : 1302 * k ≤ i ∧ i < 1302 * k + 1302
  · rw [if_pos g]
    show (if 1302 * (k + 1) + (i - 1302 * k) < 1302 * k then h (1302 * (k + 1) + (i - 1302 * k) + 1302) else h (1302 * (k + 1) + (i - 1302 * k))) = _
    rw [if_neg (by omega), if_pos (by omega)]
    congr 1
    omega
  · rw [if_neg g]
    by_cases g2 : i < 1302 * k
    · rw [if_pos g2, if_pos (by omega)]
    · rw [if_neg g2, if_neg (by omega)]
theorem na_fn (n : ch_N) (kd i : Nat) (f : Nat → Int32) : na n kd i f kd i = f := by funext j; rw [na_at, if_pos ⟨rfl, rfl⟩]
theorem nw_id (n : ch_N) (kd i j : Nat) : nw n kd i j (n kd i j) = n := by
  funext a b c
  rw [nw_at]
  by_cases h : a = kd ∧ b = i ∧ c = j
  · rw [if_pos h, h.1, h.2.1, h.2.2]
  · rw [if_neg h]
/-! THE REFERENCE: a mobile added, a call set up, the best hysteresis -/
def r_zr (w : Nat → Int32) (M k : Nat) : Nat → Int32 := fun i => if 210 + 91 * M ≤ i ∧ i < 210 + 91 * M + k then 0 else w i
theorem r_zr_0 (w : Nat → Int32) (M : Nat) : r_zr w M 0 = w := by funext i; unfold r_zr; rw [if_neg (by omega)]
theorem r_zr_s (w : Nat → Int32) (M k : Nat) : up (r_zr w M k) (210 + 91 * M + k) 0 = r_zr w M (k + 1) := by
  funext i
  by_cases e : i = 210 + 91 * M + k
  · subst e; rw [up_s]; unfold r_zr; rw [if_pos (by omega)]
  · rw [up_n e]; unfold r_zr
    by_cases g : 210 + 91 * M ≤ i ∧ i < 210 + 91 * M + k
    · rw [if_pos g, if_pos (by omega)]
    · rw [if_neg g, if_neg (by omega)]
theorem r_R_congr'' {n n' : ch_N} {w w' : Nat → Int32} (h : r_R n w) (h1 : w' 1 = w 1) (hw : ∀ j, 90 ≤ j → j < 210 → w' j = w j) (h2 : n' 2 = n 2) (h0 : k_cc n' = k_cc n) : r_R n' w' := by
  obtain ⟨⟨b1, b2⟩, b3, b4, b5, b6⟩ := h
  unfold r_R
  rw [h2, h0, h1]
  refine ⟨⟨b1, b2⟩, fun r hr => ?_, fun r t hr ht e1 e2 => ?_, fun a b ha hb hz => ?_, b6⟩
  · obtain ⟨a, b, g⟩ := b3 r hr
    refine ⟨a, b, ?_⟩
    rw [hw _ (by omega) (by omega), hw _ (by omega) (by omega), hw _ (by omega) (by omega), hw _ (by omega) (by omega), hw _ (by omega) (by omega)]
    exact g
  · rw [hw _ (by omega) (by omega), hw (90 + 5 * t) (by omega) (by omega)] at e1
    rw [hw _ (by omega) (by omega), hw (90 + 5 * t + 1) (by omega) (by omega)] at e2
    exact b4 r t hr ht e1 e2
  · obtain ⟨r, hr, g1, g2⟩ := b5 a b ha hb hz
    exact ⟨r, hr, by rw [hw _ (by omega) (by omega)]; exact g1, by rw [hw _ (by omega) (by omega)]; exact g2⟩
def r_amW (w : Nat → Int32) (M : Nat) (x y vx vy : Int32) : Nat → Int32 := r_end (up (up (up (up (r_zr (up w 2 (nI (M + 1))) M 91) (210 + 91 * M + 0) x) (210 + 91 * M + 1) y) (210 + 91 * M + 2) vx) (210 + 91 * M + 3) vy) M
theorem r_N_am {n : ch_N} {w : Nat → Int32} {M : Nat} {x y vx vy : Int32} (h : r_N n w) (hM : M = k_mc n) (hM12 : M < 12) (hx : ¬ x < 0 ∧ ¬ 999 < x) (hy : ¬ y < 0 ∧ ¬ 999 < y) : r_N (k_amN n M x y vx vy) (r_amW w M x y vx vy) := by
  have h24 := r_24 h
  have hcc := h.2.2.2.2.2.2.1
  have h58 : ∀ i c, i < 13 → c < 8 → Int32.toNatClampNeg (n 5 i c) ≤ 8 := fun i c hi hc => (r_c58 h hi hc).2
  have e3 : ∀ j, (k_amN n M x y vx vy) 3 M j = if j = 0 then x else if j = 1 then y else if j = 2 then vx else if j = 3 then vy else if j = 4 then 0 else if j = 5 then -1 else if j = 6 then 0 else if j = 7 then 0 else if j = 8 then -1 else if j = 9 then 0 else n 3 M j := by
    intro j
    unfold k_amN k_plc k_idle k_clr
    rw [na_k (by decide), na_k (by decide)]
    simp only [nw_at]
    rcases (show j = 0 ∨ j = 1 ∨ j = 2 ∨ j = 3 ∨ j = 4 ∨ j = 5 ∨ j = 6 ∨ j = 7 ∨ j = 8 ∨ j = 9 ∨ 9 < j by omega) with rfl | rfl | rfl | rfl | rfl | rfl | rfl | rfl | rfl | rfl | g
    any_goals simp
    simp [show j ≠ 0 by omega, show j ≠ 1 by omega, show j ≠ 2 by omega, show j ≠ 3 by omega, show j ≠ 4 by omega, show j ≠ 5 by omega, show j ≠ 6 by omega, show j ≠ 7 by omega, show j ≠ 8 by omega, show j ≠ 9 by omega]
  have e5 : ∀ c, (k_amN n M x y vx vy) 5 M c = 0 := by intro c; unfold k_amN k_plc k_idle k_clr; rw [na_k (by decide), na_at, if_pos ⟨rfl, rfl⟩]
  have e6 : ∀ c, (k_amN n M x y vx vy) 6 M c = -1 := by intro c; unfold k_amN k_plc k_idle k_clr; rw [na_at, if_pos ⟨rfl, rfl⟩]
  have e0 : ∀ j, (k_amN n M x y vx vy) 0 0 j = if j = 2 then nI (M + 1) else n 0 0 j := by
    intro j
    unfold k_amN k_plc k_idle k_clr
    rw [na_k (by decide), na_k (by decide)]
    simp only [nw_k (show (0 : Nat) ≠ 3 by decide)]
    rw [nw_at]
    by_cases g : j = 2
    · rw [if_pos ⟨rfl, rfl, g⟩, if_pos g]
    · rw [if_neg (fun z => g z.2.2), if_neg g]
  have ek : ∀ kd, kd = 1 ∨ kd = 2 ∨ kd = 7 → (k_amN n M x y vx vy) kd = n kd := by
    intro kd hk
    unfold k_amN k_plc k_idle k_clr
    rw [na_k (by omega), na_k (by omega)]
    simp only [nw_k (show kd ≠ 3 by omega)]
    rw [nw_k (by omega)]
  have eo : ∀ kd i, i ≠ M → kd = 3 ∨ kd = 4 ∨ kd = 5 ∨ kd = 6 → (k_amN n M x y vx vy) kd i = n kd i := by
    intro kd i hi hk
    funext j
    unfold k_amN k_plc k_idle k_clr
    simp [nw_at, na_at, hi]
    intro z
    omega
  have ew : ∀ j, r_amW w M x y vx vy j = if j = 210 + 91 * M + 8 then -1 else if j = 210 + 91 * M + 6 then 0 else if j = 210 + 91 * M + 5 then -1 else if j = 210 + 91 * M + 4 then 0 else if j = 210 + 91 * M + 3 then vy else if j = 210 + 91 * M + 2 then vx else if j = 210 + 91 * M + 1 then y else if j = 210 + 91 * M + 0 then x else if 210 + 91 * M ≤ j ∧ j < 210 + 91 * M + 91 then 0 else if j = 2 then nI (M + 1) else w j := fun j => rfl
  have ewo : ∀ j, ¬ (210 + 91 * M ≤ j ∧ j < 210 + 91 * M + 91) → r_amW w M x y vx vy j = if j = 2 then nI (M + 1) else w j := fun j hj => by
    rw [ew, if_neg (by omega), if_neg (by omega), if_neg (by omega), if_neg (by omega), if_neg (by omega), if_neg (by omega), if_neg (by omega), if_neg (by omega), if_neg hj]
  generalize k_amN n M x y vx vy = n' at *
  generalize r_amW w M x y vx vy = w' at *
  have ec : k_cc n' = k_cc n := by unfold k_cc; rw [e0, if_neg (by decide)]
  have em : k_mc n' = M + 1 := by unfold k_mc; rw [e0, if_pos rfl, nI_clamp (by omega)]
  have hlt : ∀ j, j < 210 → ¬ j = 2 → w' j = w j := fun j hj hj2 => by rw [ewo j (by omega), if_neg hj2]
  have hm := h.2.2.2.2.1
  have hwf := h.2.2.2.2.2
  obtain ⟨a1, ⟨a2, ⟨k1, k2, k3, k4, k5⟩, aK2⟩, a3, aR, -, -⟩ := h
  refine ⟨fun j hj => ?_, ⟨fun t ht => by rw [hlt _ (by omega) (by omega), ek 7 (by omega)]; exact a2 t ht, ⟨by rw [e0, if_neg (by decide)]; exact k1, by rw [e0, if_neg (by decide)]; exact k2, by rw [e0, if_neg (by decide)]; exact k3, by rw [e0, if_neg (by decide)]; exact k4, by rw [e0, if_pos rfl]; exact nI_pos (by omega)⟩, fun d hd => by rw [ek 1 (by omega)]; exact aK2 d (by rw [ec] at hd; exact hd)⟩, fun c f hc hf => by rw [hlt _ (by rw [ec] at hc; omega) (by omega), ek 1 (by omega)]; exact a3 c f (by rw [ec] at hc; exact hc) hf, ?_, fun i hi => ?_, ?_⟩
  · by_cases e : j = 2
    · subst e; rw [ewo 2 (by omega), if_pos rfl, e0, if_pos rfl]
    · rw [hlt j (by omega) e, e0, if_neg e]; exact a1 j hj
  · refine r_R_congr'' aR (hlt 1 (by decide) (by decide)) (fun j h1 h2 => hlt j h2 (by omega)) (ek 2 (by omega)) ec
  · rw [em] at hi
    by_cases e : i = M
    · subst e
      unfold r_M
      have n1 : ¬ n' 3 i 4 = 1 := by rw [e3]; simp
      have n2 : ¬ n' 3 i 4 = 2 := by rw [e3]; simp
      refine ⟨fun f hf => ?_, ?_, fun z => absurd z n1, fun z => absurd (by rw [e3]; rfl) z, Or.inl (by rw [e3]; rfl), fun z => absurd z n1, fun _ => ⟨by rw [e3]; rfl, fun c _ => ⟨e5 c, e6 c⟩⟩, fun _ => by rw [e3]; rfl, fun z => absurd z n2, Or.inl (by rw [e3]; rfl), fun z => absurd (by rw [e3]; rfl) z, fun z => absurd z n1, ?_, fun z => absurd z n1⟩
      · rw [e3, ew]
        rcases (show f = 0 ∨ f = 1 ∨ f = 2 ∨ f = 3 ∨ f = 4 ∨ f = 5 ∨ f = 6 by omega) with rfl | rfl | rfl | rfl | rfl | rfl | rfl <;> simp
      · rw [e3, ew]; simp
      rw [e3, e3, if_pos rfl, if_neg (by decide), if_pos rfl]
      exact ⟨hx.1, hx.2, hy.1, hy.2⟩
    · exact r_M_congr (hm i (by omega)) (fun f hf => by rw [ewo _ (by omega), if_neg (by omega)]) (eo 3 i e (by omega)) (eo 4 i e (by omega)) (eo 5 i e (by omega)) (eo 6 i e (by omega)) ec (fun j => by rw [ek 2 (by omega)]) (fun c hc => h58 i c (by omega) hc)
  · obtain ⟨g1, g2, g3, g4, g5, g6⟩ := hwf
    refine ⟨by rw [em]; omega, by rw [ec]; exact g2, by rw [e0, if_neg (by decide)]; exact g3, by rw [e0, if_neg (by decide)]; exact g4, by rw [e0, if_neg (by decide)]; exact g5, fun i c hi hc => ?_⟩
    rw [e0, if_neg (by decide)]
    by_cases e : i = M
    · subst e; rw [e5]; exact ⟨by decide, Nat.zero_le _, fun _ => Nat.zero_le _⟩
    · rw [eo 5 i e (by omega)]; exact ⟨(g6 i c hi hc).1, (g6 i c hi hc).2.1, fun z => (g6 i c hi hc).2.2 (by rw [em] at z; omega)⟩
/-! THE REFERENCE: a call set up; the best hysteresis -/
theorem r_cov {n : ch_N} (x y : Int32) : k_cov n x y = -1 ∨ ∃ s, s < k_cc n ∧ k_cov n x y = nI s := by
  unfold k_cov
  rcases k_ld_inv n x y (k_cc n) with ⟨h1, -, -⟩ | ⟨b, hb, h1, -⟩
  · rw [if_pos h1]; exact Or.inl rfl
  · split
    · exact Or.inl rfl
    · split
      · exact Or.inr ⟨b, hb, h1⟩
      · exact Or.inl rfl
/-- an idle mobile waits for its set-up -/
theorem r_N_rqW {n : ch_N} {w : Nat → Int32} {m c : Nat} (h : r_N n w) (hm : m < k_mc n) (ht : n 3 m 4 = 0) (h6 : 0 < n 3 m 6) (hc : c < k_cc n) : r_N (k_wfs n m (nI c) (n 0 0 3)) (r_rq (up w (210 + 91 * m + 4) 2) m (nI c) 1 (w 3)) := by
  have hc8 := r_c8 h hc
  have hw3 := h.1 3 (by decide)
  obtain ⟨a1, a2, a3, a4, a5, a6, a7, a8, a9, a10, a11, a12, a13, a14⟩ := h.2.2.2.2.1 m hm
  have hwf : k_wf (k_wfs n m (nI c) (n 0 0 3)) := k_mrq_wf (nw3_wf h.2.2.2.2.2 _ _ _) m (nI c) (n 0 0 3)
  have e3 : ∀ j, (k_wfs n m (nI c) (n 0 0 3)) 3 m j = if j = 9 then n 0 0 3 else if j = 8 then nI c else if j = 4 then 2 else n 3 m j := by
    intro j
    unfold k_wfs k_mrq
    simp only [nw_at]
    by_cases g9 : j = 9
    · subst g9; simp
    by_cases g8 : j = 8
    · subst g8; simp
    by_cases g4 : j = 4
    · subst g4; simp
    simp [g9, g8, g4]
  have ek : ∀ kd, kd ≠ 3 → (k_wfs n m (nI c) (n 0 0 3)) kd = n kd := fun kd h3 => by unfold k_wfs k_mrq; rw [nw_k h3, nw_k h3, nw_k h3]
  have hoff : ∀ kd i, i ≠ m → (k_wfs n m (nI c) (n 0 0 3)) kd i = n kd i := fun kd i hi => by funext j; unfold k_wfs k_mrq; simp [nw_at, hi]
  generalize k_wfs n m (nI c) (n 0 0 3) = n' at *
  have ec : k_cc n' = k_cc n := by unfold k_cc; rw [ek 0 (by decide)]
  have ew : ∀ i, r_rq (up w (210 + 91 * m + 4) 2) m (nI c) 1 (w 3) i = if i = 210 + 91 * m + 10 then w 3 else if i = 210 + 91 * m + 9 then 1 else if i = 210 + 91 * m + 8 then nI c else if i = 210 + 91 * m + 4 then 2 else w i := fun i => rfl
  have s4 : n' 3 m 4 = 2 := by rw [e3, if_neg (by decide), if_neg (by decide), if_pos rfl]
  have s8 : n' 3 m 8 = nI c := by rw [e3, if_neg (by decide), if_pos rfl]
  have s9 : n' 3 m 9 = n 0 0 3 := by rw [e3, if_pos rfl]
  have n1 : ¬ n 3 m 4 = 1 := by rw [ht]; decide
  have b1 : ¬ (2 : Int32) = 1 := by decide
  refine r_N_mob h hm (fun kd h3 _ _ _ => ek kd h3) hoff (fun j hj => by rw [ew, if_neg (by omega), if_neg (by omega), if_neg (by omega), if_neg (by omega)]) ?_ hwf
  unfold r_M
  rw [s4, s8, s9, ek 2 (by decide), ek 4 (by decide), ek 5 (by decide), ek 6 (by decide), ec]
  refine ⟨fun f hf => ?_, by rw [ew, if_neg (by omega), if_neg (by omega), if_pos rfl], fun z => absurd z b1, fun _ => ⟨by rw [ew, if_pos rfl, hw3], by rw [ew, if_neg (by omega), if_pos rfl, if_neg b1]⟩, Or.inr (Or.inr rfl), fun z => absurd z b1, fun _ => ⟨by rw [e3, if_neg (by decide), if_neg (by decide), if_neg (by decide)]; exact (a7 n1).1, (a7 n1).2⟩, fun z => absurd z (by decide), fun _ => nI_nm1 (by omega), Or.inr ⟨c, hc, rfl⟩, fun _ => by rw [e3, if_neg (by decide), if_neg (by decide), if_neg (by decide)]; exact h6, fun z => absurd z b1, ?_, fun z => absurd z b1⟩
  · by_cases g : f = 4
    · subst g; rw [ew, if_neg (by omega), if_neg (by omega), if_neg (by omega), if_pos rfl, e3, if_neg (by decide), if_neg (by decide), if_pos rfl]
    · rw [ew, if_neg (by omega), if_neg (by omega), if_neg (by omega), if_neg (by omega), e3, if_neg (by omega), if_neg (by omega), if_neg g]; exact a1 f hf
  · rw [e3, e3, if_neg (by omega), if_neg (by omega), if_neg (by omega), if_neg (by omega), if_neg (by omega), if_neg (by omega)]; exact a13
theorem r_rcfree (n : ch_N) (s x y : Int32) : ∀ N b, (k_rc n s x y N).1 = nI b → b < 2 ^ 31 → k_free n (nI b) = true
  | 0, b, h, hb => absurd h.symm (nI_nm1 hb)
  | N + 1, b, h, hb => by
    have e : k_rc n s x y (N + 1) = if ¬ n 2 (k_rx s (nI N)) 0 = 0 ∧ (k_rc n s x y N).2 < k_lv n N x y ∧ k_use n (nI N) x y = true ∧ k_free n (nI N) = true then (nI N, k_lv n N x y) else k_rc n s x y N := rfl
    by_cases g : ¬ n 2 (k_rx s (nI N)) 0 = 0 ∧ (k_rc n s x y N).2 < k_lv n N x y ∧ k_use n (nI N) x y = true ∧ k_free n (nI N) = true
    · rw [e, if_pos g] at h
      rw [← show nI N = nI b from h]
      exact g.2.2.2
    · rw [e, if_neg g] at h
      exact r_rcfree n s x y N b h hb
/-! THE INVARIANT: what the class keeps for itself -/
def k_G (n : ch_N) : Prop := (∀ m, m < 12 → n 3 m 4 = 0 → n 3 m 6 = 0) ∧ ∀ r, r < 64 → ¬ n 2 r 1 < 0
theorem G_row {n n' : ch_N} (h : k_G n) (h3 : ∀ m, m < 12 → (n' 3 m 4 = n 3 m 4 ∧ n' 3 m 6 = n 3 m 6) ∨ ¬ n' 3 m 4 = 0 ∨ n' 3 m 6 = 0) (h2 : ∀ r, r < 64 → n' 2 r 1 = n 2 r 1) : k_G n' := by
  refine ⟨fun m hm h4 => ?_, fun r hr => by rw [h2 r hr]; exact h.2 r hr⟩
  rcases h3 m hm with ⟨e4, e6⟩ | e | e
  · rw [e6]; exact h.1 m hm (by rw [← e4]; exact h4)
  · exact absurd h4 e
  · exact e
theorem G_same {n n' : ch_N} (h : k_G n) (h3 : n' 3 = n 3) (h2 : n' 2 = n 2) : k_G n' := G_row h (fun m _ => Or.inl ⟨by rw [h3], by rw [h3]⟩) (fun r _ => by rw [h2])
theorem G_nw3 {n : ch_N} (h : k_G n) {i j : Nat} (hj : j ≠ 4 ∧ j ≠ 6) (v : Int32) : k_G (nw n 3 i j v) := G_row h (fun m _ => Or.inl ⟨by rw [nw_at, if_neg (fun z => hj.1 z.2.2.symm)], by rw [nw_at, if_neg (fun z => hj.2 z.2.2.symm)]⟩) (fun r _ => by rw [nw_k (by decide)])
theorem G_nw2 {n : ch_N} (h : k_G n) {i j : Nat} (hj : j ≠ 1) (v : Int32) : k_G (nw n 2 i j v) := G_row h (fun m _ => Or.inl ⟨by rw [nw_k (by decide)], by rw [nw_k (by decide)]⟩) (fun r _ => by rw [nw_at, if_neg (fun z => hj z.2.2.symm)])
theorem G_nwo {n : ch_N} (h : k_G n) {kd i j : Nat} (h3 : 3 ≠ kd) (h2 : 2 ≠ kd) (v : Int32) : k_G (nw n kd i j v) := G_same h (nw_k h3) (nw_k h2)
theorem G_nao {n : ch_N} (h : k_G n) {kd i : Nat} (h3 : 3 ≠ kd) (h2 : 2 ≠ kd) (f : Nat → Int32) : k_G (na n kd i f) := G_same h (na_k h3) (na_k h2)
theorem G_cnt {n : ch_N} (h : k_G n) (j : Nat) : k_G (k_cnt n j) := G_nwo h (by decide) (by decide) _
theorem G_clr {n : ch_N} (h : k_G n) (i : Nat) : k_G (k_clr n i) := G_nao (G_nao h (by decide) (by decide) _) (by decide) (by decide) _
theorem G_idle {n : ch_N} (h : k_G n) (i : Nat) : k_G (k_idle n i) := by
  refine G_clr (G_row h (fun m _ => ?_) (fun r _ => by simp only [nw_k (show 2 ≠ 3 by decide)])) i
  by_cases e : m = i
  · subst e; exact Or.inr (Or.inr (by simp [nw_at]))
  · exact Or.inl ⟨by simp [nw_at, e], by simp [nw_at, e]⟩
theorem G_beg6 {n : ch_N} (h : k_G n) (i : Nat) (c d : Int32) : k_G (k_beg (nw n 3 i 6 d) i c) := by
  refine G_clr (G_row h (fun m _ => ?_) (fun r _ => by simp only [nw_k (show 2 ≠ 3 by decide)])) i
  by_cases e : m = i
  · subst e; exact Or.inr (Or.inl (by simp [nw_at]))
  · exact Or.inl ⟨by simp [nw_at, e], by simp [nw_at, e]⟩
theorem G_beg {n : ch_N} (h : k_G n) (i : Nat) (c : Int32) : k_G (k_beg n i c) := by
  refine G_clr (G_row h (fun m _ => ?_) (fun r _ => by simp only [nw_k (show 2 ≠ 3 by decide)])) i
  by_cases e : m = i
  · subst e; exact Or.inr (Or.inl (by simp [nw_at]))
  · exact Or.inl ⟨by simp [nw_at, e], by simp [nw_at, e]⟩
theorem G_mrq {n : ch_N} (h : k_G n) (i : Nat) (c t : Int32) : k_G (k_mrq n i c t) := G_nw3 (G_nw3 h (by decide) _) (by decide) _
theorem G_wfs6 {n : ch_N} (h : k_G n) (i : Nat) (c t d : Int32) : k_G (k_wfs (nw n 3 i 6 d) i c t) := by
  refine G_row h (fun m _ => ?_) (fun r _ => by unfold k_wfs k_mrq; simp only [nw_k (show 2 ≠ 3 by decide)])
  unfold k_wfs k_mrq
  by_cases e : m = i
  · subst e; exact Or.inr (Or.inl (by simp [nw_at]))
  · exact Or.inl ⟨by simp [nw_at, e], by simp [nw_at, e]⟩
theorem G_su {n : ch_N} (h : k_G n) (i : Nat) (d s : Int32) : k_G (k_su n i d s).2 := by
  unfold k_su
  split
  · split
    · exact G_wfs6 h _ _ _ _
    · exact G_cnt h _
  · dsimp only
    split
    · exact G_beg6 h _ _ _
    · exact G_beg6 (G_cnt h _) _ _ _
theorem G_bar {n : ch_N} (h : k_G n) (i : Nat) (x t : Int32) : k_G (k_bar n i x t) := by
  unfold k_bar; split
  · exact h
  · split
    · exact G_nwo h (by decide) (by decide) _
    · exact h
theorem G_crp {n : ch_N} (h : k_G n) (i : Nat) (x : Int32) : k_G (k_crp n i x) := by
  unfold k_crp; split
  · exact h
  · split
    · exact G_nwo h (by decide) (by decide) _
    · exact h
theorem G_ho {n : ch_N} (h : k_G n) (i : Nat) (t : Int32) : k_G (k_ho n i t) := by
  unfold k_ho
  refine G_cnt (G_nw2 (G_nw3 (G_nw3 (G_nw3 (G_bar ?_ _ _ _) (by decide) _) (by decide) _) (by decide) _) (by decide) _) _
  split
  · exact G_cnt h _
  · exact h
theorem G_add {n : ch_N} (h : k_G n) (i c : Nat) (v : Int32) (w : Nat) : k_G (k_add n i c v w) := by
  unfold k_add k_drp
  split
  · exact G_nwo (G_nwo h (by decide) (by decide) _) (by decide) (by decide) _
  · exact G_nwo (G_nwo (G_nao h (by decide) (by decide) _) (by decide) (by decide) _) (by decide) (by decide) _
theorem kf_G {f : Nat → ch_N → ch_N} : ∀ (N : Nat) (n : ch_N), (∀ i n, k_G n → k_G (f i n)) → k_G n → k_G (kf f N n)
  | 0, _, _, h => h
  | N + 1, n, hf, h => hf N _ (kf_G N n hf h)
theorem G_ms (i : Nat) (n : ch_N) (h : k_G n) : k_G (s_ms i n) := by
  unfold s_ms; split
  · refine kf_G _ _ (fun c m hm => ?_) h
    unfold k_ms1; split
    · exact G_add hm _ _ _ _
    · exact G_crp hm _ _
  · exact h
theorem G_6t {n : ch_N} (h : k_G n) {i : Nat} (h4 : n 3 i 4 = 1) (v : Int32) : k_G (nw n 3 i 6 v) := by
  refine G_row h (fun m _ => ?_) (fun r _ => by simp only [nw_k (show 2 ≠ 3 by decide)])
  by_cases e : m = i
  · subst e; exact Or.inr (Or.inl (by rw [nw_at, if_neg (by omega), h4]; decide))
  · exact Or.inl ⟨by simp [nw_at, e], by simp [nw_at, e]⟩
theorem G_fin (i : Nat) (n : ch_N) (h : k_G n) : k_G (s_fin i n) := by
  unfold s_fin k_fin; split
  · rename_i h4
    dsimp only; split
    · exact G_6t h h4 _
    · exact G_cnt (G_idle (G_6t h h4 _) _) _
  · exact h
theorem G_dr (i : Nat) (n : ch_N) (h : k_G n) : k_G (s_dr i n) := by
  unfold s_dr k_dr; split
  · dsimp only
    generalize (if k_avg n i (n 3 i 5) < n 0 0 8 then n 3 i 7 + 1 else 0) = v
    split
    · exact G_nw3 h (by decide) _
    · exact G_cnt (G_idle (G_nw3 h (by decide) _) _) _
  · exact h
theorem G_sv {n : ch_N} (h : k_G n) (i : Nat) (c : Int32) : k_G (k_sv n i c) := by
  unfold k_sv
  refine G_cnt ?_ _
  split
  · exact G_ho h _ _
  · exact G_beg h _ _
theorem G_svL (c : Int32) : ∀ (j : Nat) (n : ch_N), k_G n → k_G (k_svL c j n)
  | 0, _, h => h
  | j + 1, n, h => by
    unfold k_svL; split
    · split
      · exact h
      · exact G_svL c j _ (G_sv h _ _)
    · exact h
theorem G_cg (c : Nat) (n : ch_N) (h : k_G n) : k_G (s_cg c n) := by
  unfold s_cg; split
  · exact h
  · exact G_nwo h (by decide) (by decide) _
theorem G_ex (i : Nat) (n : ch_N) (h : k_G n) : k_G (s_ex i n) := by
  unfold s_ex k_ex; split
  · exact h
  · split
    · exact h
    · dsimp only; split
      · exact G_cnt (G_idle (G_nw3 (G_cnt h _) (by decide) _) _) _
      · exact G_nw3 (G_cnt h _) (by decide) _
theorem G_c1 (q : ch_N) (i N : Nat) : ∀ (j : Nat) (n : ch_N), k_G n → k_G (k_c1 q i N j n).2
  | 0, _, h => h
  | j + 1, n, h => by
    unfold k_c1; split
    · exact G_ho h _ _
    · exact G_c1 q i N j _ (G_nw2 h (by decide) _)
theorem G_c2 (q : ch_N) (i N : Nat) : ∀ (j : Nat) (n : ch_N), k_G n → k_G (k_c2 q i N j n)
  | 0, _, h => h
  | j + 1, n, h => by
    unfold k_c2; split
    · exact G_mrq h _ _ _
    · exact G_c2 q i N j _ h
theorem G_ch {n : ch_N} (h : k_G n) (q : ch_N) (i : Nat) : k_G (k_ch n q i).1 := by
  unfold k_ch
  dsimp only
  split
  · exact G_c1 _ _ _ _ _ h
  · split
    · exact G_c1 _ _ _ _ _ h
    · exact G_c2 _ _ _ _ _ (G_c1 _ _ _ _ _ h)
theorem G_dc : ∀ (N : Nat) (s : ch_N × ch_N), k_G s.1 → k_G (kf s_dc N s).1
  | 0, _, h => h
  | N + 1, s, h => by
    show k_G (s_dc N (kf s_dc N s)).1
    unfold s_dc
    split
    · exact G_ch (G_dc N s h) _ _
    · exact G_dc N s h
theorem G_mv (i : Nat) (n : ch_N) (h : k_G n) : k_G (s_mv i n) := G_nw3 (G_nw3 h (by decide) _) (by decide) _
theorem G_t1 {n : ch_N} (h : k_G n) : k_G (k_t1 n) := by
  unfold k_t1
  dsimp only
  have h1 : k_G (kf s_mv (k_mc n) n) := kf_G _ _ G_mv h
  generalize kf s_mv (k_mc n) n = a1 at h1 ⊢
  have h2 : k_G (kf s_ms (k_mc a1) a1) := kf_G _ _ G_ms h1
  generalize kf s_ms (k_mc a1) a1 = a2 at h2 ⊢
  have h3 : k_G (kf s_fin (k_mc a2) a2) := kf_G _ _ G_fin h2
  generalize kf s_fin (k_mc a2) a2 = a3 at h3 ⊢
  have h4 : k_G (kf s_dr (k_mc a3) a3) := kf_G _ _ G_dr h3
  generalize kf s_dr (k_mc a3) a3 = a4 at h4 ⊢
  exact kf_G _ _ (fun c n h => G_svL _ 12 n h) h4
theorem G_t3 {n : ch_N} (h : k_G n) : k_G (k_t3 n) := by
  unfold k_t3
  dsimp only
  have h2 : k_G (kf s_cg (k_cc n) n) := kf_G _ _ G_cg h
  generalize kf s_cg (k_cc n) n = a2 at h2 ⊢
  have h3 : k_G (kf s_ex (k_mc a2) a2) := kf_G _ _ G_ex h2
  generalize kf s_ex (k_mc a2) a2 = a3 at h3 ⊢
  exact G_nwo h3 (by decide) (by decide) _
theorem G_tick (s : ch_N × ch_N) (h : k_G s.1) : k_G (k_tick s).1 := by
  have h1 := G_t1 h
  obtain ⟨a, b⟩ := s
  unfold k_tick
  dsimp only at h1 ⊢
  generalize k_t1 a = a1 at h1 ⊢
  have h2 := G_dc (k_mc a1) (a1, b) h1
  generalize kf s_dc (k_mc a1) (a1, b) = s2 at h2 ⊢
  exact G_t3 h2
theorem G_adv : ∀ (T : Nat) (s : ch_N × ch_N), k_G s.1 → k_G (k_adv T s).1
  | 0, _, h => h
  | T + 1, s, h => by rw [k_adv_s]; exact G_tick _ (G_adv T s h)
/-- the ranking's memory is all that a tick changes beside the network -/
theorem k_ins_k (q : ch_N) (c m : Int32) {kd : Nat} (h : kd ≤ 16) : k_ins q c m kd = q kd := by
  unfold k_ins; split
  · rw [nw_k (by omega), nw_k (by omega), nw_k (by omega), na_k (by omega), na_k (by omega)]
  · rfl
theorem k_rkL_k (n : ch_N) (em : Int32) (i : Nat) {kd : Nat} (h : kd ≤ 16) : ∀ (N : Nat) (q : ch_N), k_rkL n em i N q kd = q kd
  | 0, _ => rfl
  | N + 1, q => by
    show (if 0 < k_mg n em i (nI N) then k_ins (k_rkL n em i N q) (nI N) (k_mg n em i (nI N)) else k_rkL n em i N q) kd = q kd
    split
    · rw [k_ins_k _ _ _ h]; exact k_rkL_k n em i h N q
    · exact k_rkL_k n em i h N q
theorem k_rank_k (n q : ch_N) (i : Nat) {kd : Nat} (h : kd ≤ 16) : k_rank n q i kd = q kd := by
  unfold k_rank; split
  · rw [nw_k (by omega), nw_k (by omega)]
  · rw [k_rkL_k _ _ _ h, nw_k (by omega), nw_k (by omega)]
theorem s_dc_k {kd : Nat} (h : kd ≤ 16) : ∀ (N : Nat) (s : ch_N × ch_N), (kf s_dc N s).2 kd = s.2 kd
  | 0, _ => rfl
  | N + 1, s => by
    show (s_dc N (kf s_dc N s)).2 kd = s.2 kd
    unfold s_dc
    split
    · unfold k_ch; dsimp only; rw [k_rank_k _ _ _ h]; exact s_dc_k h N s
    · exact s_dc_k h N s
theorem k_adv_k {kd : Nat} (h : kd ≤ 16) : ∀ (T : Nat) (s : ch_N × ch_N), (k_adv T s).2 kd = s.2 kd
  | 0, _ => rfl
  | T + 1, s => by
    rw [k_adv_s]
    unfold k_tick
    dsimp only
    rw [s_dc_k h]
    exact k_adv_k h T s
/-- one network holds what another holds -/
def k_ag (n m : ch_N) : Prop := (∀ j, j < 10 → n 0 0 j = m 0 0 j) ∧ (∀ c j, c < 8 → j < 9 → n 1 c j = m 1 c j) ∧ (∀ r j, r < 64 → j < 4 → n 2 r j = m 2 r j) ∧ (∀ i j, i < 12 → j < 10 → n 3 i j = m 3 i j) ∧ (∀ i, i < 12 → n 4 i = m 4 i ∧ n 5 i = m 5 i ∧ n 6 i = m 6 i) ∧ n 7 0 = m 7 0
theorem k_cph_k (n m : ch_N) {kd : Nat} (h : kd ≠ 0) : k_cph n m kd = n kd := by unfold k_cph; simp only [nw_k h]
theorem k_cp_ag (n m : ch_N) : k_ag (k_cp n m) m := by
  unfold k_cp
  refine ⟨fun j hj => ?_, fun c j hc hj => ?_, fun r j hr hj => ?_, fun i j hi hj => ?_, fun i hi => ⟨?_, ?_, ?_⟩, ?_⟩
  · rw [na_k (by decide)]
    unfold k_cpP
    rw [if_neg (by omega)]
    unfold k_cph
    rcases (show j = 0 ∨ j = 1 ∨ j = 2 ∨ j = 3 ∨ j = 4 ∨ j = 5 ∨ j = 6 ∨ j = 7 ∨ j = 8 ∨ j = 9 by omega) with rfl | rfl | rfl | rfl | rfl | rfl | rfl | rfl | rfl | rfl <;> simp [nw_at]
  · rw [na_k (by decide)]; unfold k_cpP; exact if_pos (by omega)
  · rw [na_k (by decide)]; unfold k_cpP; exact if_pos (by omega)
  · rw [na_k (by decide)]; unfold k_cpP; exact if_pos (by omega)
  · rw [na_k (by decide)]; funext j; unfold k_cpP; exact if_pos (by omega)
  · rw [na_k (by decide)]; funext j; unfold k_cpP; exact if_pos (by omega)
  · rw [na_k (by decide)]; funext j; unfold k_cpP; exact if_pos (by omega)
  · funext j; rw [na_at, if_pos ⟨rfl, rfl⟩]
theorem k_cp_c8 {n m : ch_N} (hn : k_c8 n) (hm : k_c8 m) : k_c8 (k_cp n m) := by
  intro i c hi hc
  by_cases e : i < 12
  · rw [((k_cp_ag n m).2.2.2.2.1 i e).2.1]; exact hm i c hi hc
  · have e2 : k_cp n m 5 i c = n 5 i c := by
      unfold k_cp
      rw [na_k (by decide)]
      unfold k_cpP
      rw [if_neg (by omega), k_cph_k _ _ (by decide)]
    rw [e2]; exact hn i c hi hc
theorem k_ag_mc {n m : ch_N} (h : k_ag n m) : k_mc n = k_mc m := by unfold k_mc; rw [h.1 2 (by decide)]
theorem k_ag_cc {n m : ch_N} (h : k_ag n m) : k_cc n = k_cc m := by unfold k_cc; rw [h.1 0 (by decide)]
theorem k_G_ag {n m : ch_N} (h : k_ag n m) (hm : k_G m) : k_G n :=
  ⟨fun i hi z => by rw [h.2.2.2.1 i 6 hi (by decide)]; exact hm.1 i hi (by rw [← h.2.2.2.1 i 4 hi (by decide)]; exact z), fun r hr => by rw [h.2.2.1 r 1 hr (by decide)]; exact hm.2 r hr⟩
theorem k_wf_ag {n m : ch_N} (h : k_ag n m) (hc : k_c8 n) (hm : k_wf m) : k_wf n := by
  obtain ⟨a1, a2, a3, a4, a5, a6⟩ := hm
  unfold k_wf
  rw [k_ag_mc h, k_ag_cc h, h.1 4 (by decide)]
  refine ⟨a1, a2, a3, a4, a5, fun i c hi hc' => ⟨(hc i c hi hc').1, (hc i c hi hc').2, fun hi2 => ?_⟩⟩
  rw [(h.2.2.2.2.1 i (by omega)).2.1]
  exact (a6 i c hi hc').2.2 hi2
theorem r_N_ag {n m : ch_N} {w : Nat → Int32} (h : k_ag n m) (hc : k_c8 n) (hm : r_N m w) : r_N n w := by
  obtain ⟨a1, ⟨a2, aK⟩, a3, aR, aM, aW⟩ := hm
  have hwf := k_wf_ag h hc aW
  have emc := k_ag_mc h
  have ecc := k_ag_cc h
  have h12 := aW.1
  have h8 := aW.2.1
  obtain ⟨g0, g1, g2, g3, g4, g7⟩ := h
  refine ⟨fun j hj => by rw [g0 j hj]; exact a1 j hj, ⟨fun t ht => by rw [g7]; exact a2 t ht, ?_⟩, fun c f hc hf => by rw [ecc] at hc; rw [g1 c f (by omega) hf]; exact a3 c f hc hf, ?_, fun i hi => ?_, hwf⟩
  · unfold r_K at aK ⊢
    rw [g0 3 (by decide), g0 5 (by decide), g0 0 (by decide), g0 2 (by decide), ecc]
    exact ⟨aK.1, fun c hc => by rw [g1 c 0 (by omega) (by decide), g1 c 1 (by omega) (by decide), g1 c 2 (by omega) (by decide), g1 c 3 (by omega) (by decide)]; exact aK.2 c hc⟩
  · obtain ⟨b1, b3, b4, b5, b6⟩ := aR
    refine ⟨b1, fun r hr => ?_, b4, fun a b ha hb hz => ?_, fun a b ha hb hz => ?_⟩
    · obtain ⟨a, b, z1, z2, z3, z4, z5, z6, z7, z8⟩ := b3 r hr
      refine ⟨a, b, by rw [ecc]; exact z1, by rw [ecc]; exact z2, z3, z4, ?_, ?_, ?_, ?_⟩
      · rw [g2 (8 * a + b) 0 (by omega) (by decide)]; exact z5
      · rw [g2 (8 * a + b) 1 (by omega) (by decide)]; exact z6
      · rw [g2 (8 * a + b) 2 (by omega) (by decide)]; exact z7
      · rw [g2 (8 * a + b) 3 (by omega) (by decide)]; exact z8
    · rw [g2 (8 * a + b) 0 (by omega) (by decide)] at hz; exact b5 a b ha hb hz
    · rw [g2 (8 * a + b) 0 (by omega) (by decide)] at hz
      rw [g2 (8 * a + b) 2 (by omega) (by decide), g2 (8 * a + b) 3 (by omega) (by decide)]; exact b6 a b ha hb hz
  · rw [emc] at hi
    have hi12 : i < 12 := by omega
    obtain ⟨c1, c2, c3, c4, c5, c6, c7, c8, c9, c10, c11, c12, c13, c14⟩ := aM i hi
    obtain ⟨e4, e5, e6⟩ := g4 i hi12
    have E := g3 i
    refine ⟨fun f hf => by rw [g3 i f hi12 (by omega)]; exact c1 f hf, ?_⟩
    rw [g3 i 8 hi12 (by decide), g3 i 4 hi12 (by decide), g3 i 7 hi12 (by decide), g3 i 9 hi12 (by decide), g3 i 5 hi12 (by decide), g3 i 6 hi12 (by decide), g3 i 0 hi12 (by decide), g3 i 1 hi12 (by decide), e4, e5, e6, ecc]
    refine ⟨c2, c3, c4, c5, c6, c7, c8, c9, c10, c11, fun ht c hc he => ?_, c13, c14⟩
    obtain ⟨s, hs, es⟩ := c6 ht
    have z := c12 ht c hc he
    rw [es, k_rx_in (by omega) hc] at z ⊢
    rw [g2 _ 0 (by omega) (by decide)]; exact z
/-- the text's reading leaves the mobiles alone -/
theorem l_f_k {c f : Nat} {lo hi : Int32} {p : ch_P2} {kd : Nat} (h : kd ≠ 1) : (l_f c f lo hi p).2 kd = p.2 kd := nw_k h
theorem l_h_k {j : Nat} {lo hi : Int32} {p : ch_P2} {kd : Nat} (h : kd ≠ 0) : (l_h j lo hi p).2 kd = p.2 kd := nw_k h
theorem l_cellA_k {c : Nat} {p : ch_P2} {kd : Nat} (h : kd ≠ 1) : (l_cellA c p).2 kd = p.2 kd := by unfold l_cellA; simp only [l_f_k h]
theorem l_cell_k {p : ch_P2} {kd : Nat} (h : 2 ≤ kd) : (l_cell p).2 kd = p.2 kd := by
  unfold l_cell; split
  · rfl
  · show nw (nw (l_cellA _ _).2 1 _ 8 0) 0 0 0 _ kd = p.2 kd
    rw [nw_k (by omega), nw_k (by omega), l_cellA_k (by omega)]
theorem l_set_k {p : ch_P2} {kd : Nat} (h : 1 ≤ kd) : (l_set p).2 kd = p.2 kd := by unfold l_set; simp only [l_h_k (show kd ≠ 0 by omega)]
theorem l_rel_k {p : ch_P2} {kd : Nat} (h : 3 ≤ kd) : (l_rel p).2 kd = p.2 kd := by
  unfold l_rel; split
  · rfl
  · show nw (nw (nw p.2 2 _ 1 _) 2 _ 0 1) 0 0 1 _ kd = p.2 kd
    rw [nw_k (by omega), nw_k (by omega), nw_k (by omega)]
theorem l_cl_k {p : ch_P2} {kd : Nat} (h : 3 ≤ kd) : (l_cl p).2 kd = p.2 kd := by
  unfold l_cl; split
  · exact l_cell_k (by omega)
  · split
    · exact l_rel_k h
    · split
      · exact l_set_k (by omega)
      · rfl
theorem l_nL_k {kd : Nat} (h : 3 ≤ kd) : ∀ (N : Nat) (p : ch_P2), (l_nL N p).2 kd = p.2 kd
  | 0, _ => rfl
  | N + 1, p => by
    rw [l_nL_s]; split
    · rw [l_nL_k h N]; exact l_cl_k h
    · rfl
theorem k_clear_k {n : ch_N} {kd : Nat} (h : 3 ≤ kd) (h7 : kd ≠ 7) : k_clear n kd = n kd := by
  unfold k_clear
  rw [na_k h7]
  funext i j
  unfold k_clrR
  rw [if_neg (by omega)]
  unfold k_dfl
  simp only [nw_k (show kd ≠ 0 by omega)]
theorem l_net_k {p : ch_P2} {kd : Nat} (h : 3 ≤ kd) (h7 : kd ≠ 7) : (l_net p).2 kd = p.2 kd := by
  unfold l_net; rw [l_nL_k h]; exact k_clear_k h h7
theorem t_sn_ge {q : ch_N} {lo hi : Int32} : ¬ (t_sn q lo hi).1 < lo := by
  unfold t_sn
  split
  · exact fun z => Int32.lt_irrefl z
  · split
    · exact fun z => Int32.lt_irrefl z
    · rename_i h; exact fun z => h (Or.inl z)
theorem t_see_ge {q : ch_N} {lo hi : Int32} : ¬ (t_see q lo hi).1 < lo := by
  unfold t_see
  exact t_sn_ge
theorem l_rel_2 {p : ch_P2} (h : ∀ r, r < 64 → ¬ p.2 2 r 1 < 0) : ∀ r, r < 64 → ¬ (l_rel p).2 2 r 1 < 0 := by
  intro r hr
  unfold l_rel; split
  · exact h r hr
  · dsimp only
    rw [nw_k (show 2 ≠ 0 by decide), nw_at, if_neg (by omega), nw_at]
    split
    · exact t_see_ge
    · exact h r hr
theorem l_cl_2 {p : ch_P2} (h : ∀ r, r < 64 → ¬ p.2 2 r 1 < 0) : ∀ r, r < 64 → ¬ (l_cl p).2 2 r 1 < 0 := by
  unfold l_cl; split
  · rw [l_cell_k (by decide)]; exact h
  · split
    · exact l_rel_2 h
    · split
      · rw [l_set_k (by decide)]; exact h
      · exact h
theorem l_nL_2 : ∀ (N : Nat) (p : ch_P2), (∀ r, r < 64 → ¬ p.2 2 r 1 < 0) → ∀ r, r < 64 → ¬ (l_nL N p).2 2 r 1 < 0
  | 0, _, h => h
  | N + 1, p, h => by
    rw [l_nL_s]; split
    · exact l_nL_2 N _ (l_cl_2 h)
    · exact h
theorem l_net_G {p : ch_P2} (h : k_G p.2) : k_G (l_net p).2 := by
  refine ⟨fun m hm => by rw [l_net_k (by decide) (by decide)]; exact h.1 m hm, ?_⟩
  unfold l_net
  refine l_nL_2 700 _ (fun r hr => ?_)
  show ¬ k_clear p.2 2 r 1 < 0
  unfold k_clear
  rw [na_k (by decide)]
  unfold k_clrR
  rw [if_pos (by omega)]
  decide
theorem l_net_c8 {p : ch_P2} (h : k_c8 p.2) : k_c8 (l_net p).2 := fun i c hi hc => by rw [l_net_k (by decide) (by decide)]; exact h i c hi hc

/-! THE INVARIANT of class and reference -/
def k_ring (μ : ch_M) (p u : Nat) : Nat → ch_N := fun i => μ (3 + (p + 12 - u + i) % 12)
def k_Iv (μ : ch_M) (u p : Nat) : Prop := p < 12 ∧ u ≤ 12 ∧ μ 15 14 0 0 = nI u ∧ μ 15 14 0 1 = nI p ∧ r_J (μ 0) (μ 2) (μ 15) (μ 15 11 0 7) u (k_ring μ p u) (μ 16) ∧ ∀ k, k < 15 → k_c8 (μ k) ∧ k_G (μ k)
def k_INV (μ : ch_M) : Prop := ∃ u p, k_Iv μ u p
theorem r_J_gen {n n' sn sn' tx tx' : ch_N} {F : Int32} {u : Nat} {hs hs' : Nat → ch_N} {p : ch_N} (h : r_J n sn tx F u hs p) (hn : ∀ w, r_N n w → r_N n' w) (hsn : F = 1 → ∀ w, r_N sn w → r_N sn' w) (t0 : tx' 12 0 0 = tx 12 0 0) (t2 : tx' 12 0 2 = tx 12 0 2) (t13 : tx' 13 0 = tx 13 0) (hh : ∀ i, i < u → ∀ w, r_N (hs i) w → r_N (hs' i) w) : r_J n' sn' tx' F u hs' p := by
  obtain ⟨a, ⟨b1, b2, b3⟩, ⟨c1, c2, c3⟩, ⟨L, d1, d2, d3, d4, d5⟩⟩ := h
  exact ⟨hn _ a, ⟨b1, b2, fun z => hsn z _ (b3 z)⟩, ⟨c1, c2, fun i hi => hh i hi _ (c3 i hi)⟩, ⟨L, d1, by rw [t0]; exact d2, d3, fun i hi => by rw [t13]; exact d4 i hi, by rw [t2]; exact d5⟩⟩
theorem k_Iv_of {μ' : ch_M} {u p : Nat} {n sn tx : ch_N} {F : Int32} {hs : Nat → ch_N} (hp : p < 12) (hu : u ≤ 12) (ea : μ' 15 14 0 0 = nI u) (eb : μ' 15 14 0 1 = nI p) (hJ : r_J n sn tx F u hs (μ' 16)) (eF : μ' 15 11 0 7 = F) (hn : ∀ w, r_N n w → r_N (μ' 0) w) (hsn : F = 1 → ∀ w, r_N sn w → r_N (μ' 2) w) (t0 : μ' 15 12 0 0 = tx 12 0 0) (t2 : μ' 15 12 0 2 = tx 12 0 2) (t13 : μ' 15 13 0 = tx 13 0) (hh : ∀ i, i < u → ∀ w, r_N (hs i) w → r_N (k_ring μ' p u i) w) (hc : ∀ k, k < 15 → k_c8 (μ' k) ∧ k_G (μ' k)) : k_Iv μ' u p :=
  ⟨hp, hu, ea, eb, by rw [eF]; exact r_J_gen hJ hn hsn t0 t2 t13 hh, hc⟩
theorem k_Iv_mk {μ μ' : ch_M} {u p : Nat} (h : k_Iv μ u p) (e0 : μ' 0 = μ 0) (e2 : μ' 2 = μ 2) (eh : ∀ k, 3 ≤ k → k < 15 → μ' k = μ k) (c1 : k_c8 (μ' 1) ∧ k_G (μ' 1)) (e11 : μ' 15 11 = μ 15 11) (e12 : μ' 15 12 0 0 = μ 15 12 0 0) (e122 : μ' 15 12 0 2 = μ 15 12 0 2) (e13 : μ' 15 13 0 = μ 15 13 0) (e14 : μ' 15 14 = μ 15 14) (hJ : r_J (μ 0) (μ 2) (μ 15) (μ 15 11 0 7) u (k_ring μ p u) (μ' 16)) : k_Iv μ' u p := by
  obtain ⟨a1, a2, a3, a4, a5, a6⟩ := h
  refine k_Iv_of a1 a2 (by rw [e14]; exact a3) (by rw [e14]; exact a4) hJ (by rw [e11]) (fun w z => by rw [e0]; exact z) (fun _ w z => by rw [e2]; exact z) e12 e122 e13 (fun i hi w z => ?_) (fun k hk => ?_)
  · unfold k_ring at z ⊢
    rw [eh _ (by omega) (by omega)]; exact z
  · rcases (show k = 0 ∨ k = 1 ∨ k = 2 ∨ 3 ≤ k by omega) with rfl | rfl | rfl | h3
    · rw [e0]; exact a6 0 hk
    · exact c1
    · rw [e2]; exact a6 2 hk
    · rw [eh k h3 hk]; exact a6 k hk
theorem k_min_pu {u : Nat} (h : u ≤ 12) : k_min (nI u + 1) 12 = nI (r_pu u) := by
  unfold k_min r_pu
  rw [nI_1]
  by_cases e : u = 12
  · subst e; rfl
  · rw [if_neg (show ¬ (12 : Int32) < nI (u + 1) from nI_nlt (a := 12) (by omega) (by decide)), if_neg e]
theorem k_nx_p {p : Nat} (h : p < 12) : k_nx (nI p) = nI ((p + 1) % 12) := by
  unfold k_nx
  rw [nI_1]
  by_cases e : p = 11
  · subst e; rfl
  · rw [if_pos (show nI (p + 1) < (12 : Int32) from nI_lt (b := 12) (by omega) (by decide)), Nat.mod_eq_of_lt (by omega)]
theorem k_Iv_rec {μ μ' : ch_M} {u p : Nat} (h : k_Iv μ u p) {n' : ch_N} (e0 : μ' 0 = n') (e1 : μ' 1 = μ 1) (e2 : μ' 2 = μ 2) (ep : μ' (3 + p) = k_cp (μ (3 + p)) (μ 0)) (eh : ∀ k, 3 ≤ k → k < 15 → k ≠ 3 + p → μ' k = μ k) (e11 : μ' 15 11 = μ 15 11) (e12 : μ' 15 12 = μ 15 12) (e13 : μ' 15 13 = μ 15 13) (ea : μ' 15 14 0 0 = k_min (μ 15 14 0 0 + 1) 12) (eb : μ' 15 14 0 1 = k_nx (μ 15 14 0 1)) (cn : k_c8 n' ∧ k_G n')
    (hJ : r_J n' (μ 2) (μ 15) (μ 15 11 0 7) (r_pu u) (r_ph (k_ring μ p u) u (μ 0)) (μ' 16)) : k_Iv μ' (r_pu u) ((p + 1) % 12) := by
  obtain ⟨a1, a2, a3, a4, a5, a6⟩ := h
  have hp15 : 3 + p < 15 := by omega
  refine k_Iv_of (by omega) (by unfold r_pu; split <;> omega) (by rw [ea, a3]; exact k_min_pu a2) (by rw [eb, a4]; exact k_nx_p a1) hJ (by rw [e11]) (fun w z => by rw [e0]; exact z) (fun _ w z => by rw [e2]; exact z) (by rw [e12]) (by rw [e12]) (by rw [e13]) (fun i hi w z => ?_) (fun k hk => ?_)
  · unfold r_ph at z
    unfold k_ring at z ⊢
    unfold r_pu at hi ⊢
    by_cases hu : u = 12
    · rw [if_pos hu] at hi z ⊢
      by_cases hl : i < 11
      · rw [if_pos hl] at z
        have e : 3 + ((p + 1) % 12 + 12 - 12 + i) % 12 = 3 + (p + 12 - u + (i + 1)) % 12 := by omega
        rw [e, eh _ (by omega) (by omega) (by omega)]; exact z
      · rw [if_neg hl] at z
        have e : 3 + ((p + 1) % 12 + 12 - 12 + i) % 12 = 3 + p := by omega
        rw [e, ep]; exact r_N_ag (k_cp_ag _ _) (k_cp_c8 (a6 _ hp15).1 (a6 0 (by omega)).1) z
    · rw [if_neg hu] at hi z ⊢
      by_cases hl : i < u
      · rw [if_pos hl] at z
        have e : 3 + ((p + 1) % 12 + 12 - (u + 1) + i) % 12 = 3 + (p + 12 - u + i) % 12 := by omega
        rw [e, eh _ (by omega) (by omega) (by omega)]; exact z
      · rw [if_neg hl] at z
        have e : 3 + ((p + 1) % 12 + 12 - (u + 1) + i) % 12 = 3 + p := by omega
        rw [e, ep]; exact r_N_ag (k_cp_ag _ _) (k_cp_c8 (a6 _ hp15).1 (a6 0 (by omega)).1) z
  · by_cases e9 : k = 3 + p
    · subst e9; rw [ep]; exact ⟨k_cp_c8 (a6 _ hp15).1 (a6 0 (by omega)).1, k_G_ag (k_cp_ag _ _) (a6 0 (by omega)).2⟩
    · rcases (show k = 0 ∨ k = 1 ∨ k = 2 ∨ 3 ≤ k by omega) with rfl | rfl | rfl | h3
      · rw [e0]; exact cn
      · rw [e1]; exact a6 1 hk
      · rw [e2]; exact a6 2 hk
      · rw [eh k h3 hk e9]; exact a6 k hk
/-- the reference's part set anew -/
theorem k_Iv_16 {μ : ch_M} {u p : Nat} (h : k_Iv μ u p) {P : ch_N} (hJ : r_J (μ 0) (μ 2) (μ 15) (μ 15 11 0 7) u (k_ring μ p u) P) : k_Iv (up μ 16 P) u p := by
  refine k_Iv_mk h (up_n (by decide)) (up_n (by decide)) (fun k h1 h2 => up_n (by omega)) (by rw [up_n (by decide)]; exact h.2.2.2.2.2 1 (by decide)) ?_ ?_ ?_ ?_ ?_ (by rw [up_s]; exact hJ) <;> rw [up_n (show 15 ≠ 16 by decide)]
/-- the memory of the class's ranking and survey, of the law -/
theorem k_Iv_o {μ μ' : ch_M} {u p : Nat} (h : k_Iv μ u p) (e : ∀ k, k < 15 ∨ k = 16 → μ' k = μ k) (h15 : ∀ kd, 11 ≤ kd → kd ≤ 14 → μ' 15 kd = μ 15 kd) : k_Iv μ' u p :=
  k_Iv_mk h (e 0 (by decide)) (e 2 (by decide)) (fun k _ h2 => e k (Or.inl h2)) (by rw [e 1 (by decide)]; exact h.2.2.2.2.2 1 (by decide)) (h15 11 (by decide) (by decide)) (by rw [h15 12 (by decide) (by decide)]) (by rw [h15 12 (by decide) (by decide)]) (by rw [h15 13 (by decide) (by decide)]) (h15 14 (by decide) (by decide)) (by rw [e 16 (by decide)]; exact h.2.2.2.2.1)
theorem k_Iv_17 {μ : ch_M} {u p : Nat} (h : k_Iv μ u p) (r : Int32) : k_Iv (ch_st μ 17 34 0 0 r) u p := by
  refine k_Iv_o h (fun k hk => ?_) (fun kd _ _ => ?_)
  · unfold ch_st; exact up_n (by omega)
  · unfold ch_st; rw [up_n (by decide)]
theorem st17 (μ : ch_M) (r : Int32) {k : Nat} (h : k ≠ 17) : ch_st μ 17 34 0 0 r k = μ k := by unfold ch_st; exact up_n h
theorem st17_v (μ : ch_M) (r : Int32) : ch_st μ 17 34 0 0 r 17 34 0 0 = r := by rw [ch_st_at, if_pos ⟨rfl, rfl, rfl, rfl⟩]

