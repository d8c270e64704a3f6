/-! THE LAW: a tick on the class -/
theorem std_fr {E : ch_E} {S S' : ch_S} (hs : ch_Std E S) (h : ∀ k, k < 16 → S'.1 k = S.1 k ∧ S'.2.1 k = S.2.1 k ∧ S'.2.2 k = S.2.2 k) : ch_Std E S' := by
  have hk : ∀ {k kd i}, ch_V k kd i → k < 16 := fun {k kd i} hv => by
    unfold ch_V at hv
    split at hv <;> first | omega | exact hv.elim
  refine ⟨fun k kd i hv => by rw [(h k (hk hv)).2.1]; exact hs.1 k kd i hv, fun k kd i j a hv hr => ?_, trivial⟩
  have ha : a.1 < 16 := by
    have hk16 := hk hv
    unfold ch_rt at hr
    split at hr
    · split at hr <;> first | (cases hr; exact hk16) | cases hr
    · split at hr <;> first | (cases hr; exact hk16) | cases hr
    · split at hr <;> first | (cases hr; exact hk16) | cases hr
    · split at hr <;> first | (cases hr; exact hk16) | cases hr
    · split at hr <;> first | (cases hr; exact hk16) | cases hr
    · split at hr <;> first | (cases hr; decide) | cases hr
    · split at hr <;> first | (cases hr; decide) | cases hr
    · split at hr <;> first | (cases hr; decide) | cases hr
    · split at hr <;> first | (cases hr; (show 3 + j < 16); omega) | cases hr
    · split at hr <;> first | (cases hr; decide) | cases hr
    · split at hr <;> first | (cases hr; decide) | cases hr
    · split at hr <;> first | (cases hr; decide) | cases hr
    · cases hr
  rw [(h k (hk hv)).2.2, hs.2.1 k kd i j a hv hr, (h a.1 ha).1]
theorem s_Vlt {n n' : ch_N} {X : Nat} (hA : s_A X n) (hA' : s_A X n') (hX : X < 2 ^ 31) {r : Nat} (hr : r < 64) (h : s_V n r < s_V n' r) : n 2 r 2 < n' 2 r 2 := by
  obtain ⟨v, ev, hv⟩ := hA.2.2.2.2.2.1 r hr
  obtain ⟨v', ev', hv'⟩ := hA'.2.2.2.2.2.1 r hr
  unfold s_V at h
  rw [ev, ev', nI_clamp (by omega), nI_clamp (by omega)] at h
  rw [ev, ev']
  exact nI_lt h (by omega)
theorem k_rcm_fr {μ μ' : ch_M} {j k : Nat} (hj : j < 12) (h : ∀ k, k ≠ 20 → μ' k = μ k) (hk : k ≠ 20) : k_rcm μ' j k = k_rcm μ j k := by
  unfold k_rcm
  by_cases e : k = 15
  · subst e; rw [up_s, up_s, h 15 (by decide)]
  · rw [up_n e, up_n e, h 0 (by decide), h (3 + j) (by omega)]
    by_cases g : k = 3 + j
    · subst g; rw [up_s, up_s]
    · rw [up_n g, up_n g, h k hk]
/-- the class's memory after run(1) -/
def s_run (μ : ch_M) (j : Nat) : ch_M := up (up (k_rcm μ j) 0 (k_tick (μ 0, k_rec (μ 15))).1) 15 (k_tick (μ 0, k_rec (μ 15))).2
theorem s_run_fr {μ μ' : ch_M} {j k : Nat} (hj : j < 12) (h : ∀ k, k ≠ 20 → μ' k = μ k) (hk : k ≠ 20) : s_run μ' j k = s_run μ j k := by
  unfold s_run
  rw [h 0 (by decide), h 15 (by decide)]
  generalize k_tick (μ 0, k_rec (μ 15)) = t
  by_cases e : k = 15
  · subst e; rw [up_s, up_s]
  · rw [up_n e, up_n e]
    by_cases g : k = 0
    · subst g; rw [up_s, up_s]
    · rw [up_n g, up_n g, k_rcm_fr hj h hk]
theorem s_run_ge {μ : ch_M} {j k : Nat} (hj : j < 12) (hk : 16 ≤ k) : s_run μ j k = μ k := by
  unfold s_run k_rcm
  rw [up_n (by omega), up_n (by omega), up_n (by omega), up_n (by omega)]
/-- names apart from the scratch network 20 -/
def o_s20 (S : ch_S) (S' : ch_S) : Prop := ∀ k, k ≠ 20 → S'.1 k = S.1 k ∧ S'.2.1 k = S.2.1 k ∧ S'.2.2 k = S.2.2 k
theorem o_s20_nw {kd i : Nat} {S S1 S' : ch_S} {μ μ' : ch_M} (g : o_s20 S S1) (h : o_nw 20 kd i S1 μ S' μ') : o_s20 S S' := fun k hk => ⟨(o_nw_a h hk).trans (g k hk).1, (o_nw_v h hk).trans (g k hk).2.1, (o_nw_r h hk).trans (g k hk).2.2⟩
theorem o_s20_mn {kd i kdI i0 N : Nat} {S S1 S' : ch_S} {μ μ' : ch_M} (g : o_s20 S S1) (h : o_mn 20 kd i 20 kdI i0 N S1 μ S' μ') : o_s20 S S' ∧ ∀ k, k ≠ 20 → μ' k = μ k := by
  have e : ∀ k b c, k ≠ 20 → _ := fun k b c hk => h.2.2 k b c (fun z => hk z.1) (fun z => hk z.1)
  refine ⟨fun k hk => ⟨?_, ?_, ?_⟩, fun k hk => ?_⟩
  · rw [← (g k hk).1]; funext b c; exact (e k b c hk).1
  · rw [← (g k hk).2.1]; funext b c; exact propext (e k b c hk).2.1
  · rw [← (g k hk).2.2]; funext b c; exact (e k b c hk).2.2.1
  · funext b c; exact (e k b c hk).2.2.2
