/-- names and memory that the own model doesn't stand on -/
theorem o_NW_out {n : ch_N} {w : Nat → Int32} {S S' : ch_S} {μ μ' : ch_M} {M : Nat} (h : o_NW n w S μ) (hM : k_mc n ≤ M) (hF : ∃ F, ∀ kd i, F ≤ i → ¬ S'.2.1 18 kd i)
    (h18 : ∀ kd i, S.2.1 18 kd i → S'.2.1 18 kd i ∧ S'.1 18 kd i = S.1 18 kd i ∧ μ' 18 kd i = μ 18 kd i)
    (h16 : ∀ kd i, ¬ (kd = 48 ∧ i = 40 + M) → ¬ (kd = 24 ∧ i = 8 + M) → ¬ (kd = 23 ∧ i = M) → S'.1 16 kd i = S.1 16 kd i ∧ (S'.2.1 16 kd i ↔ S.2.1 16 kd i) ∧ S'.2.2 16 kd i = S.2.2 16 kd i ∧ μ' 16 kd i = μ 16 kd i) : o_NW n w S' μ' := by
  have hc8 := h.c8
  have k16 : ∀ {k kd i cc M}, o_V cc M k kd i → k = 16 := by
    intro k kd i cc M hv
    unfold o_V at hv
    split at hv <;> first | exact hv.1 | exact hv.elim
  have N : ∀ kd i, o_V (k_cc n) (k_mc n) 16 kd i → ¬ (kd = 48 ∧ i = 40 + M) ∧ ¬ (kd = 24 ∧ i = 8 + M) ∧ ¬ (kd = 23 ∧ i = M) := fun kd i hv => by
    unfold o_V at hv
    split at hv <;> first | omega | exact hv.elim
  refine o_NW_mk (cc := k_cc n) (M := k_mc n) ⟨fun k kd i hV => ?_, fun k kd i j a hV hr => ?_, hF⟩ rfl rfl h.rn ⟨fun j hj => ?_, fun m hm => ?_⟩ ?_
  · have e := k16 hV; subst e
    obtain ⟨g1, g2, g3⟩ := N kd i hV
    exact (h16 kd i g1 g2 g3).2.1.mpr (h.st.1 _ _ _ hV)
  · have e := k16 hV; subst e
    obtain ⟨g1, g2, g3⟩ := N kd i hV
    rw [(h16 kd i g1 g2 g3).2.2.1, h.st.2.1 _ _ _ _ _ hV hr]
    congr 1
    have g4 := hV
    unfold o_V at g4
    unfold o_rt at hr
    split at hr
    · split at hr <;> first | (cases hr; dsimp only; exact (h16 _ _ (by omega) (by omega) (by omega)).1.symm) | cases hr
    · have hi : i < k_mc n := by simpa using g4
      split at hr <;> first | (cases hr; dsimp only; exact (h16 _ _ (by omega) (by omega) (by omega)).1.symm) | cases hr
    · split at hr
      · cases hr; dsimp only; exact (h16 _ _ (by omega) (by omega) (by omega)).1.symm
      · cases hr
    · split at hr
      · cases hr; dsimp only; exact (h16 _ _ (by omega) (by omega) (by omega)).1.symm
      · cases hr
    · cases hr
  · rw [(h16 22 0 (by omega) (by omega) (by omega)).2.2.2]; exact h.R.1 j hj
  · obtain ⟨g1, g2, g3⟩ := h.R.2 m hm
    refine ⟨fun f hf => by rw [(h16 23 m (by omega) (by omega) (by omega)).2.2.2]; exact g1 f hf, fun c hc => by rw [(h16 48 (40 + m) (by omega) (by omega) (by omega)).2.2.2]; exact g2 c hc, fun c hc => ?_⟩
    obtain ⟨N', id, q1, q2, q3, q4, q5⟩ := g3 c hc
    obtain ⟨p1, p2, p3⟩ := h18 _ _ q3
    exact ⟨N', id, q1, q2, p1, by rw [(h16 24 (8 + m) (by omega) (by omega) (by omega)).2.2.1, p2]; exact q4, fun t ht => by rw [p3]; exact q5 t ht⟩
  · exact o_A_m h.A hc8 (fun i hi => (h16 48 i (by omega) (by omega) (by omega)).2.2.2)
