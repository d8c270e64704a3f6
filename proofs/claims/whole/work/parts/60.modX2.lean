/-! THE REFERENCE'S READING: a relation; a clause's text only goes on -/
theorem r_D_rel {n n' : ch_N} {d d' : Nat → Int32} {a b r : Nat} {v : Int32} (h : r_D n d) (ha : a < k_cc n) (hb : b < k_cc n) (hr : r = Int32.toNatClampNeg (d 1)) (hr24 : r < 24) (hz : n 2 (8 * a + b) 0 = 0)
    (hn : n' = nw (nw (nw n 2 (8 * a + b) 1 v) 2 (8 * a + b) 0 1) 0 0 1 (nI (r + 1)))
    (hd : ∀ j, d' j = if j = 1 then nI (r + 1) else if j = 90 + 5 * r then nI a else if j = 90 + 5 * r + 1 then nI b else if j = 90 + 5 * r + 2 then v else d j) : r_D n' d' := by
  obtain ⟨hN, h0, hcz, hrz⟩ := h
  have hcc8 := hN.2.2.2.2.2.2.1
  have ek : ∀ kd, kd ≠ 0 → kd ≠ 2 → n' kd = n kd := fun kd h1 h2 => by rw [hn, nw_k h1, nw_k h2, nw_k h2]
  have e0 : ∀ j, j ≠ 1 → n' 0 0 j = n 0 0 j := fun j hj => by rw [hn, nw_at, if_neg (fun z => hj z.2.2), nw_k (by decide), nw_k (by decide)]
  have e01 : n' 0 0 1 = nI (r + 1) := by rw [hn, nw_at, if_pos ⟨rfl, rfl, rfl⟩]
  have ec : k_cc n' = k_cc n := by unfold k_cc; rw [e0 0 (by decide)]
  have em : k_mc n' = k_mc n := by unfold k_mc; rw [e0 2 (by decide)]
  have e2 : ∀ i f, n' 2 i f = if i = 8 * a + b ∧ f = 0 then 1 else if i = 8 * a + b ∧ f = 1 then v else n 2 i f := fun i f => by
    rw [hn, nw_k (by decide), nw_at, nw_at]
    by_cases g0 : i = 8 * a + b ∧ f = 0
    · rw [if_pos ⟨rfl, g0.1, g0.2⟩, if_pos g0]
    · rw [if_neg (fun z => g0 ⟨z.2.1, z.2.2⟩), if_neg g0]
      by_cases g1 : i = 8 * a + b ∧ f = 1
      · rw [if_pos ⟨rfl, g1.1, g1.2⟩, if_pos g1]
      · rw [if_neg (fun z => g1 ⟨z.2.1, z.2.2⟩), if_neg g1]
  have hdo : ∀ j, j ≠ 1 → ¬ (90 + 5 * r ≤ j ∧ j < 90 + 5 * r + 3) → d' j = d j := fun j h1 h2 => by rw [hd, if_neg h1, if_neg (by omega), if_neg (by omega), if_neg (by omega)]
  have ed1 : Int32.toNatClampNeg (d' 1) = r + 1 := by rw [hd, if_pos rfl, nI_clamp (by omega)]
  obtain ⟨a1, ⟨a2, ⟨k1, k2, k3, k4, k5⟩, aK2⟩, a3, ⟨⟨r1, r2⟩, r3, r4, r5, r6⟩, aM, w1, w2, w3, w4, w5, w6⟩ := hN
  refine ⟨⟨fun j hj => ?_, ⟨fun t ht => by rw [hdo _ (by omega) (by omega), ek 7 (by decide) (by decide)]; exact a2 t ht, ⟨by rw [e0 3 (by decide)]; exact k1, by rw [e0 3 (by decide)]; exact k2, by rw [e0 5 (by decide)]; exact k3, by rw [e0 0 (by decide)]; exact k4, by rw [e0 2 (by decide)]; exact k5⟩, fun i hi => by rw [ek 1 (by decide) (by decide)]; exact aK2 i (by rw [ec] at hi; exact hi)⟩, fun i f hi hf => by rw [ec] at hi; rw [hdo _ (by omega) (by omega), ek 1 (by decide) (by decide)]; exact a3 i f hi hf, ?_, fun i hi => absurd hi (by rw [em, h0]; exact Nat.not_lt_zero _), by rw [em]; exact w1, by rw [ec]; exact w2, by rw [e0 4 (by decide)]; exact w3, by rw [e0 4 (by decide)]; exact w4, by rw [e0 4 (by decide)]; exact w5, fun i f hi hf => by rw [ek 5 (by decide) (by decide)]; exact ⟨(w6 i f hi hf).1, (w6 i f hi hf).2.1, fun z => absurd z (by rw [em, h0]; exact Nat.not_lt_zero _)⟩⟩, by rw [em]; exact h0, fun i hi hi8 => by rw [ec] at hi; rw [hdo _ (by omega) (by omega)]; exact hcz i hi hi8, fun t h1 h2 => by rw [ed1] at h1; rw [hdo _ (by omega) (by omega), hdo _ (by omega) (by omega)]; exact hrz t (by omega) h2⟩
  · by_cases e : j = 1
    · subst e; rw [hd, if_pos rfl, e01]
    · rw [hdo j e (by omega), e0 j e]; exact a1 j hj
  · refine ⟨⟨by rw [hd, if_pos rfl]; exact nI_pos (by omega), by rw [ed1]; omega⟩, fun t ht => ?_, fun t s ht hs g1 g2 => ?_, fun x y hx hy hz2 => ?_, fun x y hx hy hz2 => ?_⟩
    · rw [ed1] at ht
      rw [ec]
      by_cases e : t = r
      · subst e
        refine ⟨a, b, ha, hb, by rw [hd, if_neg (by omega), if_pos rfl], by rw [hd, if_neg (by omega), if_neg (by omega), if_pos rfl], by rw [e2, if_pos ⟨rfl, rfl⟩], by rw [hd, if_neg (by omega), if_neg (by omega), if_neg (by omega), if_pos rfl, e2, if_neg (by omega), if_pos ⟨rfl, rfl⟩], ?_, ?_⟩
        · rw [hdo _ (by omega) (by omega), e2, if_neg (by omega), if_neg (by omega), (hrz t (by omega) hr24).1]
          exact (r6 a b (by omega) (by omega) hz).1.symm
        · rw [hdo _ (by omega) (by omega), e2, if_neg (by omega), if_neg (by omega), (hrz t (by omega) hr24).2]
          exact (r6 a b (by omega) (by omega) hz).2.symm
      · obtain ⟨x, y, hx, hy, g0, g1, g2, g3, g4, g5⟩ := r3 t (by omega)
        have hne : ¬ 8 * x + y = 8 * a + b := fun z => by
          have y1 : x = a := by omega
          have y2 : y = b := by omega
          rw [y1, y2, hz] at g2
          exact absurd g2 (by decide)
        refine ⟨x, y, hx, hy, by rw [hdo _ (by omega) (by omega)]; exact g0, by rw [hdo _ (by omega) (by omega)]; exact g1, by rw [e2, if_neg (fun z => hne z.1), if_neg (fun z => hne z.1)]; exact g2, by rw [hdo _ (by omega) (by omega), e2, if_neg (fun z => hne z.1), if_neg (fun z => hne z.1)]; exact g3, by rw [hdo _ (by omega) (by omega), e2, if_neg (fun z => hne z.1), if_neg (fun z => hne z.1)]; exact g4, by rw [hdo _ (by omega) (by omega), e2, if_neg (fun z => hne z.1), if_neg (fun z => hne z.1)]; exact g5⟩
    · rw [ed1] at ht hs
      have hx : ∀ u, u < r → ¬ (d (90 + 5 * u) = nI a ∧ d (90 + 5 * u + 1) = nI b) := fun u hu z => by
        obtain ⟨x, y, hx, hy, q0, q1, q2, -⟩ := r3 u (by omega)
        have y1 : x = a := (nI_eq (by omega) (by omega)).mp (q0.symm.trans z.1)
        have y2 : y = b := (nI_eq (by omega) (by omega)).mp (q1.symm.trans z.2)
        rw [y1, y2, hz] at q2
        exact absurd q2 (by decide)
      have da : d' (90 + 5 * r) = nI a := by rw [hd, if_neg (by omega), if_pos rfl]
      have db : d' (90 + 5 * r + 1) = nI b := by rw [hd, if_neg (by omega), if_neg (by omega), if_pos rfl]
      by_cases et : t = r
      · by_cases es : s = r
        · omega
        · exfalso
          rw [et, da, hdo _ (by omega) (by omega)] at g1
          rw [et, db, hdo _ (by omega) (by omega)] at g2
          exact hx s (by omega) ⟨g1.symm, g2.symm⟩
      · by_cases es : s = r
        · exfalso
          rw [es, da, hdo _ (by omega) (by omega)] at g1
          rw [es, db, hdo _ (by omega) (by omega)] at g2
          exact hx t (by omega) ⟨g1, g2⟩
        · rw [hdo (90 + 5 * t) (by omega) (by omega), hdo (90 + 5 * s) (by omega) (by omega)] at g1
          rw [hdo (90 + 5 * t + 1) (by omega) (by omega), hdo (90 + 5 * s + 1) (by omega) (by omega)] at g2
          exact r4 t s (by omega) (by omega) g1 g2
    · rw [e2] at hz2
      by_cases g : 8 * x + y = 8 * a + b
      · refine ⟨r, by rw [ed1]; omega, ?_, ?_⟩
        · rw [hd, if_neg (by omega), if_pos rfl]; congr 1; omega
        · rw [hd, if_neg (by omega), if_neg (by omega), if_pos rfl]; congr 1; omega
      · rw [if_neg (fun z => g z.1), if_neg (fun z => g z.1)] at hz2
        obtain ⟨t, ht, q1, q2⟩ := r5 x y hx hy hz2
        exact ⟨t, by rw [ed1]; omega, by rw [hdo _ (by omega) (by omega)]; exact q1, by rw [hdo _ (by omega) (by omega)]; exact q2⟩
    · rw [e2] at hz2
      have g : ¬ 8 * x + y = 8 * a + b := fun z => by rw [if_pos ⟨z, rfl⟩] at hz2; exact absurd hz2 (by decide)
      rw [if_neg (fun z => g z.1), if_neg (fun z => g z.1)] at hz2
      rw [e2, e2, if_neg (fun z => g z.1), if_neg (fun z => g z.1), if_neg (fun z => g z.1), if_neg (fun z => g z.1)]
      exact r6 x y hx hy hz2
