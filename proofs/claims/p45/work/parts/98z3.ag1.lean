section AG2
variable {n m : ch_N}
theorem ag_mv (h : k_ag n m) {i : Nat} (hi : i < 12) : k_ag (s_mv i n) (s_mv i m) := by
  unfold s_mv k_mv
  have h1 := ag_nwv h 3 i 0 (v := k_max 0 (k_min 999 (n 3 i 0 + n 3 i 2))) (v' := k_max 0 (k_min 999 (m 3 i 0 + m 3 i 2))) (by rw [ag_3 h hi (by decide), ag_3 h hi (by decide)])
  exact ag_nwv h1 3 i 1 (by rw [ag_3 h1 hi (by decide), ag_3 h1 hi (by decide)])
theorem ag_add (h : k_ag n m) {i c : Nat} (hi : i < 12) (v : Int32) (W : Nat) : k_ag (k_add n i c v W) (k_add m i c v W) := by
  unfold k_add k_drp
  rw [ag_5 h hi, ag_4 h hi]
  split
  · exact ag_nw (ag_nw h _ _ _ _) _ _ _ _
  · exact ag_nw (ag_nw (ag_na h 4 i rfl) _ _ _ _) _ _ _ _
theorem ag_ms1 (h : k_ag n m) {i c s : Nat} (hi : i < 12) (hc : c < 8) (hs : s < 8) (h5 : n 3 i 5 = nI s) : k_ag (k_ms1 i c n) (k_ms1 i c m) := by
  have e5 := ag_3 h hi (f := 5) (by decide)
  unfold k_ms1
  rw [← e5, h5, r_rx hs hc, ag_2 h (r := 8 * s + c) (f := 0) (by omega) (by decide), ag_lv h hc, ag_3 h hi (f := 0) (by decide), ag_3 h hi (f := 1) (by decide), ag_0 h (f := 4) (by decide)]
  split
  · exact ag_add h hi _ _
  · exact ag_crp h i _
theorem ag_ms (h : k_ag n m) {i : Nat} (hi : i < 12) (h8 : k_cc n ≤ 8) (hv : n 3 i 4 = 1 → ∃ s, s < 8 ∧ n 3 i 5 = nI s) : k_ag (s_ms i n) (s_ms i m) := by
  unfold s_ms
  rw [← ag_3 h hi (f := 4) (by decide)]
  by_cases c : n 3 i 4 = 1
  · rw [if_pos c, if_pos c]
    obtain ⟨s, hs, h5⟩ := hv c
    unfold k_ms
    rw [← k_ag_cc h]
    have key : ∀ N, N ≤ 8 → k_ag (kf (k_ms1 i) N n) (kf (k_ms1 i) N m) := by
      intro N
      induction N with
      | zero => exact fun _ => h
      | succ N ih => exact fun hN => ag_ms1 (ih (by omega)) hi (by omega) hs (by rw [k_msL_k i N n (by decide) (by decide)]; exact h5)
    exact key _ h8
  · rw [if_neg c, if_neg c]; exact h
theorem ag_fin (h : k_ag n m) {i : Nat} (hi : i < 12) : k_ag (s_fin i n) (s_fin i m) := by
  unfold s_fin
  rw [k_fin_eq, k_fin_eq, ← ag_3 h hi (f := 4) (by decide), ← ag_3 h hi (f := 6) (by decide)]
  split
  · split
    · exact ag_nw h _ _ _ _
    · exact ag_cnt (ag_idle h i) 2
  · exact h
theorem ag_dr (h : k_ag n m) {i : Nat} (hi : i < 12) : k_ag (s_dr i n) (s_dr i m) := by
  unfold s_dr
  obtain ⟨v, hv⟩ : ∃ v, v = if k_avg n i (n 3 i 5) < n 0 0 8 then n 3 i 7 + 1 else 0 := ⟨_, rfl⟩
  have hv' : v = if k_avg m i (m 3 i 5) < m 0 0 8 then m 3 i 7 + 1 else 0 := by
    rw [hv, ag_avg h hi, ag_3 h hi (f := 5) (by decide), ag_0 h (f := 8) (by decide), ag_3 h hi (f := 7) (by decide)]
  rw [k_dr_eq n i v hv, k_dr_eq m i v hv', ← ag_3 h hi (f := 4) (by decide), ← ag_0 h (f := 9) (by decide)]
  split
  · split
    · exact ag_nw h _ _ _ _
    · exact ag_cnt (ag_idle h i) 3
  · exact h
theorem ag_ex (h : k_ag n m) {i : Nat} (hi : i < 12) : k_ag (s_ex i n) (s_ex i m) := by
  unfold s_ex
  rw [k_ex_eq, k_ex_eq, ← ag_3 h hi (f := 8) (by decide), ← ag_3 h hi (f := 9) (by decide), ← ag_3 h hi (f := 4) (by decide), ← ag_0 h (f := 3) (by decide), ← ag_0 h (f := 7) (by decide)]
  split
  · exact h
  · split
    · exact h
    · split
      · exact ag_cnt (ag_idle (ag_cnt h 7) i) 4
      · exact ag_nw (ag_cnt h 7) _ _ _ _
theorem ag_cg (h : k_ag n m) (h12 : k_mc n ≤ 12) {c : Nat} (hc : c < 8) : k_ag (s_cg c n) (s_cg c m) := by
  unfold s_cg
  rw [← ag_free h h12 hc]
  split
  · exact h
  · exact ag_nwv h _ _ _ (by rw [ag_1 h hc (by decide)])
end AG2
