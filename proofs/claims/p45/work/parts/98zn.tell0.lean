/-! what the reader of a text leaves of the text's memory; what saying leaves -/
section TQ
variable {kd : Nat}
theorem tq_st (h : kd ≠ 12) (q : ch_N) (s n : Nat) (k : Int32) : t_st q s n k kd = q kd := by unfold t_st; rw [nw_k h, nw_k h, nw_k h]
theorem tq_adv (h : kd ≠ 12) (q : ch_N) : t_adv q kd = q kd := by
  unfold t_adv
  split
  · rfl
  · exact tq_st h _ _ _ _
theorem tq_fail (h : kd ≠ 12) (q : ch_N) (c : Int32) : t_fail q c kd = q kd := by
  unfold t_fail
  split
  · exact nw_k h
  · rfl
theorem tq_sn (h : kd ≠ 12) (q : ch_N) (lo hi : Int32) : (t_sn q lo hi).2 kd = q kd := by
  unfold t_sn
  split
  · rfl
  · split
    · exact tq_fail h _ _
    · rfl
theorem tq_see (h : kd ≠ 12) (q : ch_N) (lo hi : Int32) : (t_see q lo hi).2 kd = q kd := by
  unfold t_see
  rw [tq_sn h]
  split
  · rfl
  · exact tq_fail h _ _
theorem tq_take (h : kd ≠ 12) (q : ch_N) (lo hi : Int32) : (t_take q lo hi).2 kd = q kd := by
  unfold t_take
  exact (tq_adv h _).trans (tq_see h _ _ _)
theorem tq_exp (h : kd ≠ 12) (q : ch_N) (a : Nat) : t_exp q a kd = q kd := by
  unfold t_exp
  split
  · exact tq_adv h _
  · exact tq_fail h _ _
theorem tq_lf (h : kd ≠ 12) (c f : Nat) (lo hi : Int32) (p : ch_P2) : (l_f c f lo hi p).1 kd = p.1 kd := tq_take h _ _ _
theorem tq_lh (h : kd ≠ 12) (j : Nat) (lo hi : Int32) (p : ch_P2) : (l_h j lo hi p).1 kd = p.1 kd := tq_take h _ _ _
theorem tq_cell (h : kd ≠ 12) (p : ch_P2) : (l_cell p).1 kd = p.1 kd := by
  unfold l_cell
  split
  · exact tq_fail h _ _
  · dsimp only
    unfold l_cellA
    rw [tq_lf h, tq_lf h, tq_lf h, tq_lf h, tq_lf h, tq_lf h, tq_lf h, tq_lf h]
    exact tq_adv h _
theorem tq_set (h : kd ≠ 12) (p : ch_P2) : (l_set p).1 kd = p.1 kd := by
  unfold l_set
  rw [tq_lh h, tq_lh h, tq_lh h, tq_lh h, tq_lh h, tq_lh h]
  exact tq_adv h _
theorem tq_rel (h : kd ≠ 12) (p : ch_P2) : (l_rel p).1 kd = p.1 kd := by
  have e1 : (l_r1 p).2 kd = p.1 kd := by unfold l_r1; exact (tq_take h (t_adv p.1) _ _).trans (tq_adv h p.1)
  have e2 : (l_r2 p).2 kd = p.1 kd := by unfold l_r2; exact (tq_see h (l_r1 p).2 _ _).trans e1
  have e3 : l_r3 p kd = p.1 kd := by
    unfold l_r3
    split
    · exact (tq_fail h _ _).trans e2
    · exact e2
  have e4 : l_r4 p kd = p.1 kd := by
    unfold l_r4
    split
    · exact e3
    · exact (tq_fail h _ _).trans e3
  unfold l_rel
  split
  · exact tq_fail h _ _
  · dsimp only
    unfold l_r5
    exact (tq_take h (t_adv (l_r4 p)) _ _).trans ((tq_adv h (l_r4 p)).trans e4)
theorem tq_cl (h : kd ≠ 12) (p : ch_P2) : (l_cl p).1 kd = p.1 kd := by
  unfold l_cl
  split
  · exact tq_cell h p
  · split
    · exact tq_rel h p
    · split
      · exact tq_set h p
      · exact tq_fail h _ _
theorem tq_nL (h : kd ≠ 12) : ∀ (j : Nat) (p : ch_P2), (l_nL j p).1 kd = p.1 kd
  | 0, _ => rfl
  | j + 1, p => by
    rw [l_nL_s]
    split
    · exact (tq_nL h j _).trans ((tq_exp h _ _).trans (tq_cl h p))
    · rfl
theorem tq_net (h : kd ≠ 12) (q n : ch_N) (x : Int32) : (l_net (t_open q x, n)).1 kd = q kd := by
  unfold l_net
  rw [tq_nL h]
  unfold t_open
  dsimp only
  rw [tq_adv h, nw_k h, nw_k h, nw_k h]
end TQ
def o_ft (S0 : ch_S) (μ0 : ch_M) (S : ch_S) (μ : ch_M) : Prop := (∀ k, k ≠ 20 → S.1 k = S0.1 k ∧ S.2.1 k = S0.2.1 k ∧ S.2.2 k = S0.2.2 k) ∧ (∀ k, k ≠ 15 → k ≠ 19 → k ≠ 20 → μ k = μ0 k) ∧ (∀ kd, kd ≠ 12 → kd ≠ 13 → μ 15 kd = μ0 15 kd) ∧ ∀ kd, kd ≠ 46 → μ 19 kd = μ0 19 kd
section FT
variable {S0 S S1 : ch_S} {μ0 μ μ1 : ch_M}
theorem o_ft_0 : o_ft S μ S μ := ⟨fun _ _ => ⟨rfl, rfl, rfl⟩, fun _ _ _ _ => rfl, fun _ _ _ => rfl, fun _ _ => rfl⟩
theorem o_ft_wr (h : o_ft S0 μ0 S μ) (g : o_wr μ μ1) : o_ft S0 μ0 S μ1 := ⟨h.1, fun k a b c => (g.1 k a b).trans (h.2.1 k a b c), fun kd a b => (g.2.1 kd a b).trans (h.2.2.1 kd a b), fun kd a => (g.2.2.2 kd a).trans (h.2.2.2 kd a)⟩
theorem o_ft_m (h : o_ft S0 μ0 S μ) (g : ∀ k, k ≠ 20 → μ1 k = μ k) : o_ft S0 μ0 S μ1 := ⟨h.1, fun k a b c => (g k c).trans (h.2.1 k a b c), fun kd a b => by rw [g 15 (by decide)]; exact h.2.2.1 kd a b, fun kd a => by rw [g 19 (by decide)]; exact h.2.2.2 kd a⟩
theorem o_ft_nw {kd i : Nat} (h : o_ft S0 μ0 S μ) (hw : o_nw 20 kd i S μ S1 μ1) : o_ft S0 μ0 S1 μ1 := by
  have g := o_ft_m h (fun k a => o_nw_m hw a)
  exact ⟨fun k a => ⟨(o_nw_a hw a).trans (h.1 k a).1, (o_nw_v hw a).trans (h.1 k a).2.1, (o_nw_r hw a).trans (h.1 k a).2.2⟩, g.2.1, g.2.2.1, g.2.2.2⟩
theorem o_w_m {L : List Int32} (h : o_w L μ) (e15 : μ1 15 = μ 15) (e19 : μ1 19 = μ 19) : o_w L μ1 := by
  unfold o_w at h ⊢
  rw [e15, e19]
  exact h
theorem o_dS_fr {E : ch_E} {n : Nat} {hy : Nat → Nat → Int32} {sv : Nat → Nat} (h : o_dS E n hy sv S0 μ0 S μ) (e1 : S1.1 16 = S.1 16) (e2 : S1.2.1 16 = S.2.1 16) (e3 : S1.2.2 16 = S.2.2 16) (e4 : S1.2.1 18 = S.2.1 18) (e5 : μ1 16 = μ 16) : o_dS E n hy sv S1 μ1 S1 μ1 := by
  obtain ⟨h1, ⟨g1, g2, F, g3⟩, h3, h4, h5, h6, h7⟩ := h
  refine ⟨fun _ _ => ⟨rfl, rfl, rfl, rfl⟩, ⟨fun k kd i hv => ?_, fun k kd i j a hv hr => ?_, F, fun kd i hi => by rw [e4]; exact g3 kd i hi⟩, by rw [e5]; exact h3, by rw [e5]; exact h4, by rw [e5]; exact h5, by rw [e5]; exact h6, by rw [e5]; exact h7⟩
  · have hk : k = 16 := by unfold o_V at hv; split at hv <;> first | exact hv.1 | exact hv.elim
    subst hk
    rw [e2]; exact g1 16 kd i hv
  · have hk : k = 16 := by unfold o_V at hv; split at hv <;> first | exact hv.1 | exact hv.elim
    have hk2 : a.1 = k := by
      unfold o_rt at hr
      split at hr <;> (try split at hr) <;> first | (cases hr; rfl) | cases hr
    subst hk
    rw [e3, g2 16 kd i j a hv hr, hk2, e1]
end FT
/-- what tell answers -/
def k_m0 (n : ch_N) : Prop := ∀ m, m < 12 → n 3 m 4 = 0 → n 3 m 6 = 0
def o_TP (E : ch_E) (S0 : ch_S) (μ0 : ch_M) : Option Value → ch_S → ch_M → Prop := fun v' S' μ' => v' = some (.int (-99)) ∨
  (v' = some (.int (nI (a_C E))) ∧ ch_Std E S' ∧ (∀ a b c, ¬ (a = 15 ∧ b = 35) → a ≠ 20 → S'.1 a b c = S0.1 a b c ∧ (S'.2.1 a b c ↔ S0.2.1 a b c)) ∧ (∃ hy sv, o_dS E (a_C E) hy sv S' μ' S' μ' ∧ o_hyk (a_C E) hy ∧ p_b6 sv ∧ o_LD (a_C E) (a_cv E) hy sv (μ' 0)) ∧
    (∀ k, 2 ≤ k → k < 15 → μ' k = μ0 k) ∧ (k_c8 (μ' 0) ∧ k_c8 (μ' 1) ∧ k_m0 (μ' 0)) ∧ μ' 15 14 0 0 = 0 ∧ μ' 15 14 0 1 = μ0 15 14 0 1)
