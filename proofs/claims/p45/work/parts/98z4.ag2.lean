/-! networks that agree, 3: hand over, serve, consider -/
section AG3
variable {n m : ch_N}
def ag_h3 (n : ch_N) (i : Nat) (t s : Int32) : ch_N := nw (nw (nw (k_bar n i s (n 0 0 3 + n 0 0 6)) 3 i 5 t) 3 i 7 0) 3 i 8 (-1)
def ag_h2 (n : ch_N) (t s : Int32) : ch_N := k_cnt (nw n 2 (k_rx s t) 2 (n 2 (k_rx s t) 2 + 1)) 0
theorem ag_hoE (n : ch_N) (i : Nat) (t : Int32) : k_ho n i t = ag_h2 (ag_h3 (if k_isb n i t (n 0 0 3) = true then k_cnt n 1 else n) i t (n 3 i 5)) t (n 3 i 5) := by
  unfold k_ho ag_h2 ag_h3
  rfl
theorem ag_h3_ag (h : k_ag n m) (i : Nat) (t s : Int32) : k_ag (ag_h3 n i t s) (ag_h3 m i t s) := by
  unfold ag_h3
  exact ag_nw (ag_nw (ag_nw (ag_bar h i s (by rw [ag_0 h (f := 3) (by decide), ag_0 h (f := 6) (by decide)])) _ _ _ _) _ _ _ _) _ _ _ _
theorem ag_h2_ag (h : k_ag n m) {s c : Nat} (hs : s < 8) (hc : c < 8) : k_ag (ag_h2 n (nI c) (nI s)) (ag_h2 m (nI c) (nI s)) := by
  unfold ag_h2
  rw [r_rx hs hc]
  exact ag_cnt (ag_nwv h 2 (8 * s + c) 2 (by rw [ag_2 h (r := 8 * s + c) (f := 2) (by omega) (by decide)])) 0
theorem ag_ho (h : k_ag n m) {i s c : Nat} (hi : i < 12) (hs : s < 8) (hc : c < 8) (h5 : n 3 i 5 = nI s) : k_ag (k_ho n i (nI c)) (k_ho m i (nI c)) := by
  have e5 := ag_3 h hi (f := 5) (by decide)
  have e3 := ag_0 h (f := 3) (by decide)
  have eb := ag_isb h hi (nI c) (n 0 0 3)
  have h1 : k_ag (if k_isb n i (nI c) (n 0 0 3) = true then k_cnt n 1 else n) (if k_isb m i (nI c) (m 0 0 3) = true then k_cnt m 1 else m) := by
    rw [← e3, ← eb]
    split
    · exact ag_cnt h 1
    · exact h
  rw [ag_hoE n, ag_hoE m, ← e5, h5]
  exact ag_h2_ag (ag_h3_ag h1 i (nI c) (nI s)) hs hc
theorem ag_sv (h : k_ag n m) {i c : Nat} (hi : i < 12) (hc : c < 8) (hv : n 3 i 4 = 1 → ∃ s, s < 8 ∧ n 3 i 5 = nI s) : k_ag (k_sv n i (nI c)) (k_sv m i (nI c)) := by
  unfold k_sv
  rw [← ag_3 h hi (f := 4) (by decide)]
  refine ag_cnt ?_ 6
  by_cases t : n 3 i 4 = 1
  · rw [if_pos t, if_pos t]
    obtain ⟨s, hs, h5⟩ := hv t
    exact ag_ho h hi hs hc h5
  · rw [if_neg t, if_neg t]
    exact ag_beg h i (nI c)
theorem ag_svL {c : Nat} : ∀ (j X : Nat) (n m : ch_N), s_A X n → k_ag n m → c < k_cc n → k_ag (k_svL (nI c) j n) (k_svL (nI c) j m)
  | 0, _, _, _, _, h, _ => h
  | j + 1, X, n, m, hA, h, hc => by
    have h8 := hA.1.2
    have h12 := hA.1.1
    show k_ag (if k_free n (nI c) = true then (if k_qm n (nI c) 0 = -1 then n else k_svL (nI c) j (k_sv n (k_ix 12 12 (k_qm n (nI c) 0)) (nI c))) else n) (if k_free m (nI c) = true then (if k_qm m (nI c) 0 = -1 then m else k_svL (nI c) j (k_sv m (k_ix 12 12 (k_qm m (nI c) 0)) (nI c))) else m)
    rw [← ag_free h h12 (c := c) (by omega), ← ag_qm h h12 (nI c) 0]
    by_cases hfr : k_free n (nI c) = true
    · rw [if_pos hfr, if_pos hfr]
      rcases r_q0 hA.1.1 (nI c) with ⟨e, -⟩ | ⟨i, hi, e, -, -⟩
      · rw [if_pos e, if_pos e]; exact h
      · rw [e, if_neg (nI_nm1 (by omega)), if_neg (nI_nm1 (by omega)), k_mob (by omega)]
        refine ag_svL j (X + 1) _ _ (s_A_sv hA hi hc hfr) (ag_sv h (by omega) (by omega) fun t => ?_) (by rw [k_cc_0 (k_sv_0 n i (nI c))]; exact hc)
        obtain ⟨s, hs, e5⟩ := hA.2.2.2.2.2.2.1 i hi t
        exact ⟨s, by omega, e5⟩
    · rw [if_neg hfr, if_neg hfr]; exact h
theorem ag_svs {X : Nat} (hA : s_A X n) (h : k_ag n m) : ∀ N, N ≤ k_cc n → k_ag (kf s_sv N n) (kf s_sv N m)
  | 0, _ => h
  | N + 1, hN => by
    rw [kf_s, kf_s]
    exact ag_svL (c := N) 12 _ _ _ (s_A_svs hA N (by omega)) (ag_svs hA h N (by omega)) (by rw [k_cc_0 (show kf s_sv N n 0 = n 0 from kf_0 (fun c n => k_svL_0 (nI c) 12 n) N n)]; omega)
theorem ag_mg (h : k_ag n m) {i s c : Nat} (hi : i < 12) (hs : s < 8) (hc : c < 8) (h5 : n 3 i 5 = nI s) (em : Int32) : k_mg n em i (nI c) = k_mg m em i (nI c) := by
  have e5 := ag_3 h hi (f := 5) (by decide)
  unfold k_mg
  rw [← e5, h5, r_rx hs hc, k_cel hc, ag_2 h (r := 8 * s + c) (f := 0) (by omega) (by decide), ag_2 h (r := 8 * s + c) (f := 1) (by omega) (by decide), ag_rep h hi, ag_0 h (f := 5) (by decide), ag_0 h (f := 3) (by decide), ag_isb h hi, ag_avg h hi, ag_avg h hi, ag_1 h hc (f := 6) (by decide)]
theorem ag_em (h : k_ag n m) {i s : Nat} (hi : i < 12) (hs : s < 8) (h5 : n 3 i 5 = nI s) : k_em n i = k_em m i := by
  have e5 := ag_3 h hi (f := 5) (by decide)
  unfold k_em
  rw [← e5, h5, k_cel hs, ag_avg h hi, ag_1 h hs (f := 7) (by decide)]
theorem o_so_cg {g g' : Nat → Int32} {N t : Nat} {C : Nat → Nat} {q : ch_N} (e : ∀ c, c < N → g c = g' c) (h : o_so g N t C q) : o_so g' N t C q := by
  obtain ⟨h1, h2, h3, h4, h5⟩ := h
  refine ⟨h1, h2, fun j hj => ?_, fun j k hjk hk => ?_, fun c hc hg => h5 c hc (by rw [e c hc]; exact hg)⟩
  · obtain ⟨a, b, c, d⟩ := h3 j hj
    rw [← e _ a]
    exact ⟨a, b, c, d⟩
  · have := h4 j k hjk hk
    unfold o_bt at this ⊢
    rw [← e _ (h3 j (by omega)).1, ← e _ (h3 k hk).1]
    exact this
/-- the ranks of two networks that agree: as many, the same cells -/
theorem ag_rank (h : k_ag n m) (h8 : k_cc n ≤ 8) {i s : Nat} (hi : i < 12) (hs : s < 8) (h5 : n 3 i 5 = nI s) (q q' : ch_N) :
    ∃ (t : Nat) (C : Nat → Nat), t ≤ k_cc n ∧ k_rank n q i 17 0 0 = nI t ∧ k_rank m q' i 17 0 0 = nI t ∧ k_rank n q i 17 0 1 = k_rank m q' i 17 0 1 ∧ ∀ j, j < t → C j < k_cc n ∧ k_car (k_rank n q i) (nI j) = nI (C j) ∧ k_car (k_rank m q' i) (nI j) = nI (C j) := by
  have e5 := ag_3 h hi (f := 5) (by decide)
  have ea : k_avg n i (n 3 i 5) = k_avg m i (m 3 i 5) := by rw [← e5, ag_avg h hi]
  by_cases ha : k_avg n i (n 3 i 5) = -1
  · refine ⟨0, fun _ => 0, Nat.zero_le _, ?_, ?_, ?_, fun j hj => absurd hj (Nat.not_lt_zero _)⟩
    · unfold k_rank; rw [if_pos ha]; simp [nw_at]; rfl
    · unfold k_rank; rw [if_pos (ea ▸ ha)]; simp [nw_at]; rfl
    · unfold k_rank; rw [if_pos ha, if_pos (ea ▸ ha)]; simp [nw_at]
  · have hcm := k_ag_cc h
    obtain ⟨⟨t, C, h0⟩, h1, -⟩ := o_rank (q := q) h8 ha
    obtain ⟨⟨t', C', h0'⟩, h1', -⟩ := o_rank (n := m) (q := q') (i := i) (by rw [← hcm]; exact h8) (by rw [← ea]; exact ha)
    have eem := ag_em h hi hs h5
    have h2 : o_so (o_g n (k_em n i) i) (k_cc n) t' C' (k_rank m q' i) := by
      rw [← hcm] at h0'
      refine o_so_cg (fun c hc => ?_) h0'
      unfold o_g
      rw [← eem]
      exact (ag_mg h hi hs (by omega) h5 _).symm
    obtain ⟨g1, g2⟩ := o_so_uq h0 h2
    subst g1
    have ht := h0.1
    refine ⟨t, C, h0.1, h0.2.1, h2.2.1, by rw [h1, h1', eem], fun j hj => ⟨(h0.2.2.1 j hj).1, ?_, ?_⟩⟩
    · rw [k_car_c h0.2.1 hj (by omega)]; exact (h0.2.2.1 j hj).2.1
    · rw [k_car_c h2.2.1 hj (by omega), g2 j hj]; exact (h2.2.2.1 j hj).2.1
theorem ag_ref (h : k_ag n m) {i s c : Nat} (hi : i < 12) (hs : s < 8) (hc : c < 8) (h5 : n 3 i 5 = nI s) : k_ag (k_ref n i (nI c)) (k_ref m i (nI c)) := by
  have e5 := ag_3 h hi (f := 5) (by decide)
  unfold k_ref
  rw [← e5, h5, r_rx hs hc]
  exact ag_nwv h 2 (8 * s + c) 3 (by rw [ag_2 h (r := 8 * s + c) (f := 3) (by omega) (by decide)])
end AG3
