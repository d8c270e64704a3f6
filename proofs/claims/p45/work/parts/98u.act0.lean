/-! THE LAW: an act -/
def o_fa (S : ch_S) (μ : ch_M) (S' : ch_S) (μ' : ch_M) : Prop := ∀ k, k ≠ 16 → k ≠ 17 → k ≠ 18 → k ≠ 21 → k ≠ 22 → S'.1 k = S.1 k ∧ S'.2.1 k = S.2.1 k ∧ S'.2.2 k = S.2.2 k ∧ μ' k = μ k
def o_PA (n : ch_N) (B j : Nat) (S : ch_S) (μ : ch_M) : Option Value → ch_S → ch_M → Prop := fun v' S' μ' => ∃ n' w', o_NW n' w' S' μ' ∧ s_J (B + 1) n' ∧ (k_cc n' = k_cc n ∧ n' 0 0 3 = n 0 0 3 ∧ S'.1 16 22 0 = S.1 16 22 0) ∧ (∀ k, k ≠ 16 → k ≠ 17 → k ≠ 18 → k ≠ 21 → k ≠ 22 → S'.1 k = S.1 k ∧ S'.2.1 k = S.2.1 k ∧ S'.2.2 k = S.2.2 k ∧ (16 ≤ k → μ' k = μ k)) ∧
  ((v' = some (.int 0) ∧ n' = n ∧ ∀ k, k < 16 → μ' k = μ k) ∨ (v' = some (.int 1) ∧ ∀ k, k < 16 → μ' k = up (k_rcm μ j) 0 n' k))
theorem s_J_mono {B B' : Nat} {n : ch_N} (h : s_J B n) (hB : B ≤ B') : s_J B' n := ⟨s_A_mono h.1 hB, h.2⟩
theorem o_PA_0 {n : ch_N} {w' : Nat → Int32} {B j : Nat} {S S' : ch_S} {μ μ' : ch_M} (ha : o_fa S μ S' μ') (hN : o_NW n w' S' μ') (hJ : s_J B n) (hq : S'.1 16 22 0 = S.1 16 22 0) : o_PA n B j S μ (some (.int 0)) S' μ' :=
  ⟨n, w', hN, s_J_mono hJ (Nat.le_succ B), ⟨rfl, rfl, hq⟩, fun k a b c d e => ⟨(ha k a b c d e).1, (ha k a b c d e).2.1, (ha k a b c d e).2.2.1, fun _ => (ha k a b c d e).2.2.2⟩, Or.inl ⟨rfl, rfl, fun k hk => (ha k (by omega) (by omega) (by omega) (by omega) (by omega)).2.2.2⟩⟩
theorem o_PA_1 {n n' : ch_N} {w' : Nat → Int32} {B j : Nat} {S S' : ch_S} {μ μ1 : ch_M} (ha : o_fa S μ S' μ1) (hN : o_NW n' w' S' μ1) (hJ : s_J (B + 1) n') (hc : k_cc n' = k_cc n) (ht : n' 0 0 3 = n 0 0 3) (hq : S'.1 16 22 0 = S.1 16 22 0) (hj : j < 12) : o_PA n B j S μ (some (.int 1)) S' (up (k_rcm μ1 j) 0 n') := by
  have hk : ∀ k, 16 ≤ k → up (k_rcm μ1 j) 0 n' k = μ1 k := fun k h => by unfold k_rcm; rw [up_n (by omega), up_n (by omega), up_n (by omega)]
  have hm : ∀ k, k < 16 → μ1 k = μ k := fun k h => (ha k (by omega) (by omega) (by omega) (by omega) (by omega)).2.2.2
  refine ⟨n', w', o_NW_x hN rfl rfl rfl rfl rfl (hk 16 (by decide)) (hk 18 (by decide)), hJ, ⟨hc, ht, hq⟩, fun k a b c d e => ⟨(ha k a b c d e).1, (ha k a b c d e).2.1, (ha k a b c d e).2.2.1, fun h => (hk k h).trans (ha k a b c d e).2.2.2⟩, Or.inr ⟨rfl, fun k h => ?_⟩⟩
  by_cases e0 : k = 0
  · subst e0; rw [up_s, up_s]
  · rw [up_n e0, up_n e0]
    unfold k_rcm
    by_cases e15 : k = 15
    · subst e15; rw [up_s, up_s, hm 15 (by decide)]
    · rw [up_n e15, up_n e15, hm 0 (by decide), hm (3 + j) (by omega)]
      by_cases g : k = 3 + j
      · subst g; rw [up_s, up_s]
      · rw [up_n g, up_n g, hm k h]
theorem o_fa_fr {S S' : ch_S} {μ μ' : ch_M} (h : o_fr S μ S' μ') : o_fa S μ S' μ' := h.1
theorem o_fa_0 {S : ch_S} {μ : ch_M} : o_fa S μ S μ := fun _ _ _ _ _ _ => ⟨rfl, rfl, rfl, rfl⟩
theorem o_fa_std {E : ch_E} {S S' : ch_S} {μ μ' : ch_M} (h : o_fa S μ S' μ') (hs : ch_Std E S) : ch_Std E S' := std_fr hs (fun k hk => by obtain ⟨a, b, c, -⟩ := h k (by omega) (by omega) (by omega) (by omega) (by omega); exact ⟨a, b, c⟩)
theorem k_su_v {n : ch_N} {m s : Nat} {d : Int32} (h8 : k_cc n ≤ 8) (hs : s < k_cc n) : ¬ (k_su n m d (nI s)).1 = -2 ∧ ¬ (k_su n m d (nI s)).1 = -4 := by
  unfold k_su
  rcases o_suc (n := n) (m := m) hs with e | ⟨b, hb, e⟩
  · rw [if_pos e]
    split
    · exact ⟨show ¬ (-3 : Int32) = -2 by decide, show ¬ (-3 : Int32) = -4 by decide⟩
    · exact ⟨show ¬ (-5 : Int32) = -2 by decide, show ¬ (-5 : Int32) = -4 by decide⟩
  · rw [if_neg (by rw [e]; exact nI_nm1 (by omega))]
    dsimp only
    rw [e]
    have h2 : ∀ x : Int32, x < 0 → ¬ nI b = x := fun x hx z => nI_pos (n := b) (by omega) (by rw [z]; exact hx)
    exact ⟨h2 _ (by decide), h2 _ (by decide)⟩
theorem k_su_0 {n : ch_N} {m : Nat} {d s : Int32} : (k_su n m d s).2 0 = n 0 := by
  unfold k_su
  split
  · split
    · dsimp only; rw [k_wfs_ne (by decide), nw_k (by decide)]
    · exact k_cnt_0 n 4
  · dsimp only
    rw [k_beg_ne (by decide) (by decide) (by decide), nw_k (by decide)]
    split
    · rfl
    · exact k_cnt_0 n 5
theorem k_cov_c {n : ch_N} {x y : Int32} : k_cov n x y = -1 ∨ ∃ s, s < k_cc n ∧ k_cov n x y = nI s := by
  unfold k_cov
  rcases o_ld n x y (k_cc n) with ⟨-, e⟩ | ⟨q, hq, e, -⟩
  · rw [e]; exact Or.inl (by simp)
  · rw [e]
    split
    · exact Or.inl rfl
    · split
      · exact Or.inr ⟨q, hq, rfl⟩
      · exact Or.inl rfl
theorem r_dur {r : Nat} (h : r < 30) : k_rg 1 500 (nI (r + 1)) := by
  refine ⟨fun z => ?_, fun z => ?_⟩
  · have := (nI_ltI (a := r + 1) (b := 1) (by omega) (by decide)).mp z; omega
  · have := (nI_ltI (a := 500) (b := r + 1) (by decide) (by omega)).mp z; omega
