/-! THE LAW'S OWN MODEL: what its constructors leave -/
def o_ti (t : Nat) : Nat × Nat := if t < 4 then (24, t) else if t < 6 then (48, 28 + t) else (25, 0)
theorem o_ti_ne {j t : Nat} (h : j < t) (ht : t < 7) : ¬ ((o_ti j).1 = (o_ti t).1 ∧ (o_ti j).2 = (o_ti t).2) := by
  have key : ∀ t, t < 7 → ∀ j, j < t → ¬ ((o_ti j).1 = (o_ti t).1 ∧ (o_ti j).2 = (o_ti t).2) := by decide
  exact key t ht j h
theorem o_ti_22 (t : Nat) : (o_ti t).1 ≠ 22 := by unfold o_ti; split <;> (try split) <;> simp
theorem o_ti_3 {j : Nat} (h : j < 4) : o_ti j = (24, j) := if_pos h
def o_ow (S0 : ch_S) (μ0 : ch_M) (μ1 : Nat → Int32) (t : Nat) (S : ch_S) (μ : ch_M) : Prop :=
  (∀ k, k ≠ 16 → S.1 k = S0.1 k ∧ S.2.1 k = S0.2.1 k ∧ S.2.2 k = S0.2.2 k ∧ μ k = μ0 k) ∧ (S.2.1 16 22 0 ∧ S.1 16 22 0 = S0.1 16 22 0 ∧ μ 16 22 0 = μ1) ∧
  ∀ j, j < t → S.2.1 16 (o_ti j).1 (o_ti j).2 ∧ S.2.2 16 22 0 (9 + j) = some (S.1 16 (o_ti j).1 (o_ti j).2) ∧ (1 ≤ j → j ≤ 3 → ∀ a, a < 8 → S.2.1 16 48 (8 * j + a) ∧ S.2.2 16 24 j a = some (S.1 16 48 (8 * j + a)) ∧ ∀ b, μ 16 48 (8 * j + a) b = 0) ∧ (4 ≤ j → j < 6 → ∀ b, μ 16 48 (28 + j) b = 0)
def o_k4 (S : ch_S) (μ : ch_M) (S' : ch_S) (μ' : ch_M) (a b c : Nat) : Prop := S'.1 a b c = S.1 a b c ∧ (S'.2.1 a b c ↔ S.2.1 a b c) ∧ S'.2.2 a b c = S.2.2 a b c ∧ μ' a b c = μ a b c
theorem o_ow_s {S0 S S' S'' : ch_S} {μ0 μ μ' : ch_M} {μ1 : Nat → Int32} {t : Nat} (h : o_ow S0 μ0 μ1 t S μ) (ht : t < 7) (hk : ∀ a b c, ¬ (a = 16 ∧ b = (o_ti t).1 ∧ c = (o_ti t).2) → ¬ (a = 16 ∧ b = 48 ∧ 8 * t ≤ c ∧ c < 8 * t + 8 ∧ 1 ≤ t ∧ t ≤ 3) → o_k4 S μ S' μ' a b c)
    (hv : S'.2.1 16 (o_ti t).1 (o_ti t).2) (hm : 1 ≤ t → t ≤ 3 → ∀ a, a < 8 → S'.2.1 16 48 (8 * t + a) ∧ S'.2.2 16 24 t a = some (S'.1 16 48 (8 * t + a)) ∧ ∀ b, μ' 16 48 (8 * t + a) b = 0) (hz : 4 ≤ t → t < 6 → ∀ b, μ' 16 48 (28 + t) b = 0)
    (hr : o_rfd 16 22 0 (9 + t) (S'.1 16 (o_ti t).1 (o_ti t).2) S' S'') : o_ow S0 μ0 μ1 (t + 1) S'' μ' := by
  obtain ⟨h1, ⟨h2, h3, h4⟩, h5⟩ := h
  obtain ⟨r1, r2, r3, r4⟩ := hr
  have e22 := hk 16 22 0 (fun z => o_ti_22 t z.2.1.symm) (by omega)
  refine ⟨fun k hk16 => ?_, ⟨by rw [r2]; exact e22.2.1.mpr h2, by rw [r1]; exact e22.1.trans h3, e22.2.2.2.trans h4⟩, fun j hj => ?_⟩
  · obtain ⟨g1, g2, g3, g4⟩ := h1 k hk16
    have e : ∀ b c, o_k4 S μ S' μ' k b c := fun b c => hk k b c (fun z => hk16 z.1) (fun z => hk16 z.1)
    refine ⟨?_, ?_, ?_, ?_⟩
    · rw [r1, ← g1]; funext b c; exact (e b c).1
    · rw [r2, ← g2]; funext b c; exact propext (e b c).2.1
    · rw [← g3]; funext b c d; rw [r4 k b c d (fun z => hk16 z.1), (e b c).2.2.1]
    · rw [← g4]; funext b c; exact (e b c).2.2.2
  · by_cases e : j = t
    · subst e
      refine ⟨by rw [r2]; exact hv, by rw [r3, r1], fun a1 a3 a ha => ?_, fun a4 a6 b => hz a4 a6 b⟩
      obtain ⟨q1, q2, q3⟩ := hm a1 a3 a ha
      exact ⟨by rw [r2]; exact q1, by rw [r4 16 24 j a (by omega), r1]; exact q2, q3⟩
    · have hjt : j < t := by omega
      obtain ⟨g1, g2, g3, g4⟩ := h5 j hjt
      have k1 := hk 16 (o_ti j).1 (o_ti j).2 (fun z => o_ti_ne hjt ht ⟨z.2.1, z.2.2⟩) (fun z => by have := z.2.2.2.2.2; rw [o_ti_3 (show j < 4 by omega)] at z; exact absurd (show (24 : Nat) = 48 from z.2.1) (by decide))
      refine ⟨by rw [r2]; exact k1.2.1.mpr g1, by rw [r4 16 22 0 (9 + j) (by omega), r1, e22.2.2.1, k1.1]; exact g2, fun a1 a3 a ha => ?_, fun a4 a6 b => ?_⟩
      · obtain ⟨q1, q2, q3⟩ := g3 a1 a3 a ha
        have k2 := hk 16 48 (8 * j + a) (fun z => by unfold o_ti at z; split at z <;> (try split at z) <;> simp at z <;> omega) (by omega)
        have k3 := hk 16 24 j (fun z => by unfold o_ti at z; split at z <;> (try split at z) <;> simp at z <;> omega) (by omega)
        exact ⟨by rw [r2]; exact k2.2.1.mpr q1, by rw [r4 16 24 j a (by omega), r1, k3.2.2.1, k2.1]; exact q2, fun b => by rw [k2.2.2.2]; exact q3 b⟩
      · have k2 := hk 16 48 (28 + j) (fun z => by unfold o_ti at z; split at z <;> (try split at z) <;> simp at z <;> omega) (by omega)
        rw [k2.2.2.2]; exact g4 a4 a6 b
theorem o_ow_St {S0 S : ch_S} {μ0 μ : ch_M} {μ1 : Nat → Int32} (h : o_ow S0 μ0 μ1 7 S μ) (hF : ∃ F, ∀ kd i, F ≤ i → ¬ S0.2.1 18 kd i) : o_St S 0 0 ∧ (∀ i, 8 ≤ i → i < 34 → ∀ b, μ 16 48 i b = 0) := by
  obtain ⟨h1, ⟨h2, h3, h4⟩, h5⟩ := h
  have g0 := h5 0 (by decide); have g1 := h5 1 (by decide); have g2 := h5 2 (by decide); have g3 := h5 3 (by decide); have g4 := h5 4 (by decide); have g5 := h5 5 (by decide); have g6 := h5 6 (by decide)
  have r : ∀ i, 8 ≤ i → i < 32 → S.2.1 16 48 i ∧ ∀ b, μ 16 48 i b = 0 := fun i a b => by
    have q := (h5 (i / 8) (by omega)).2.2.1 (by omega) (by omega) (i % 8) (by omega)
    rw [show 8 * (i / 8) + i % 8 = i by omega] at q
    exact ⟨q.1, q.2.2⟩
  refine ⟨⟨fun k kd i hv => ?_, fun k kd i j a hv hr => ?_, by rw [(h1 18 (by decide)).2.1]; exact hF⟩, fun i a b => ?_⟩
  · unfold o_V at hv
    split at hv
    · obtain ⟨rfl, rfl⟩ := hv; exact h2
    · omega
    · obtain ⟨rfl, hv⟩ := hv
      have : i < 4 := by omega
      have q := (h5 i (by omega)).1
      rw [o_ti_3 this] at q
      exact q
    · obtain ⟨rfl, rfl⟩ := hv; exact g6.1
    · obtain ⟨rfl, hv⟩ := hv
      by_cases e : i < 32
      · exact (r i (by omega) e).1
      · rcases (show i = 32 ∨ i = 33 by omega) with rfl | rfl
        · exact g4.1
        · exact g5.1
    · exact hv.elim
  · unfold o_V at hv
    split at hv
    · obtain ⟨rfl, rfl⟩ := hv
      unfold o_rt at hr
      split at hr
      · split at hr <;> first | (cases hr; first | exact g0.2.1 | exact g1.2.1 | exact g2.2.1 | exact g3.2.1 | exact g4.2.1 | exact g5.2.1 | exact g6.2.1) | cases hr
      all_goals simp_all
    · omega
    · obtain ⟨rfl, hv⟩ := hv
      have hr2 : (if i < 4 ∧ (i = 0 → j < 0) ∧ j < 8 then some (16, 48, 8 * i + j) else none) = some a := hr
      by_cases e : i < 4 ∧ (i = 0 → j < 0) ∧ j < 8
      · rw [if_pos e] at hr2
        cases hr2
        exact ((h5 i (by omega)).2.2.1 (by rcases Nat.eq_zero_or_pos i with z | z; (· exact absurd (e.2.1 z) (Nat.not_lt_zero _)); (· exact z)) (by omega) j e.2.2).2.1
      · rw [if_neg e] at hr2; cases hr2
    · obtain ⟨rfl, rfl⟩ := hv
      have hr2 : (if j < 0 then some (16, 23, j) else none) = some a := hr
      rw [if_neg (Nat.not_lt_zero _)] at hr2; cases hr2
    · have hr2 : (none : Option (Nat × Nat × Nat)) = some a := hr
      cases hr2
    · exact hv.elim
  · by_cases e : i < 32
    · exact (r i a e).2
    · rcases (show i = 32 ∨ i = 33 by omega) with rfl | rfl
      · exact g4.2.2.2 (by decide) (by decide)
      · exact g5.2.2.2 (by decide) (by decide)
