/-! networks that agree, 4: a tick -/
section AG4
theorem ag_c1 {q q' : ch_N} {i N cc X : Nat} (hq : ∀ k, k < N → ∃ c, c < cc ∧ k_car q (nI k) = nI c ∧ k_car q' (nI k) = nI c) : ∀ (j : Nat), j ≤ N → ∀ (n m : ch_N), s_A X n → k_ag n m → k_cc n = cc → i < k_mc n → n 3 i 4 = 1 →
    (k_c1 q i N j n).1 = (k_c1 q' i N j m).1 ∧ k_ag (k_c1 q i N j n).2 (k_c1 q' i N j m).2
  | 0, _, _, _, _, h, _, _, _ => ⟨rfl, h⟩
  | j + 1, hj, n, m, hA, h, hcc, hi, ht => by
    have h8 := hA.1.2
    have h12 := hA.1.1
    obtain ⟨c, hc, ec, ec'⟩ := hq (N - (j + 1)) (by omega)
    obtain ⟨s, hs, h5⟩ := hA.2.2.2.2.2.2.1 i hi ht
    unfold k_c1
    rw [ec, ec', ← ag_free h h12 (c := c) (by omega)]
    by_cases hfr : k_free n (nI c) = true
    · rw [if_pos hfr, if_pos hfr]
      exact ⟨rfl, ag_ho h (by omega) (s := s) (by omega) (by omega) h5⟩
    · rw [if_neg hfr, if_neg hfr]
      exact ag_c1 hq j (by omega) _ _ (s_A_ref hA i (nI c)) (ag_ref h (by omega) (s := s) (by omega) (by omega) h5) (by rw [k_cc_0 (k_ref_ne (by decide))]; exact hcc) (by rw [k_mc_0 (k_ref_ne (by decide))]; exact hi) (by rw [k_ref_ne (by decide)]; exact ht)
theorem ag_c2 {q q' : ch_N} {i N cc X : Nat} (hq : ∀ k, k < N → ∃ c, c < cc ∧ k_car q (nI k) = nI c ∧ k_car q' (nI k) = nI c) : ∀ (j : Nat), j ≤ N → ∀ (n m : ch_N), s_A X n → k_ag n m → k_cc n = cc → k_ag (k_c2 q i N j n) (k_c2 q' i N j m)
  | 0, _, _, _, _, h, _ => h
  | j + 1, hj, n, m, hA, h, hcc => by
    have h8 := hA.1.2
    have h12 := hA.1.1
    obtain ⟨c, hc, ec, ec'⟩ := hq (N - (j + 1)) (by omega)
    unfold k_c2
    rw [ec, ec', ← ag_place h h12 (c := c) (by omega)]
    by_cases hp : k_place n (nI c) = true
    · rw [if_pos hp, if_pos hp]; exact ag_mrq h i (nI c) (ag_0 h (f := 3) (by decide))
    · rw [if_neg hp, if_neg hp]; exact ag_c2 hq j (by omega) n m hA h hcc
theorem ag_ch {n m : ch_N} {X : Nat} (hA : s_A X n) (h : k_ag n m) (q q' : ch_N) {i : Nat} (hi : i < k_mc n) (ht : n 3 i 4 = 1) : k_ag (k_ch n q i).1 (k_ch m q' i).1 := by
  have h8 := hA.1.2
  have h12 := hA.1.1
  obtain ⟨s, hs, h5⟩ := hA.2.2.2.2.2.2.1 i hi ht
  obtain ⟨t, C, ht8, e0, e0', e1, hr⟩ := ag_rank h h8 (i := i) (by omega) (s := s) (by omega) h5 q q'
  have hq : ∀ k, k < t → ∃ c, c < k_cc n ∧ k_car (k_rank n q i) (nI k) = nI c ∧ k_car (k_rank m q' i) (nI k) = nI c := fun k hk => ⟨C k, hr k hk⟩
  obtain ⟨g1, g3⟩ := ag_c1 (i := i) hq t (Nat.le_refl _) n m hA h rfl hi ht
  have g2 := (s_A_c1 (i := i) (fun k hk => by obtain ⟨c, a, b, -⟩ := hq k hk; exact ⟨c, a, b⟩) t (Nat.le_refl _) n hA rfl hi ht).2
  unfold k_ch
  dsimp only
  rw [e0, e0', nI_clamp (by omega), ← g1, ← e1]
  by_cases c : (k_c1 (k_rank n q i) i t t n).1 = true
  · rw [if_pos c, if_pos c]; exact g3
  · rw [if_neg c, if_neg c]
    obtain ⟨k1, k2⟩ := g2 c
    split
    · exact g3
    · exact ag_c2 hq t (Nat.le_refl _) _ _ k1 g3 k2
theorem ag_dc {n m q q' : ch_N} {X : Nat} (hA : s_A X n) (h : k_ag n m) : ∀ N, N ≤ k_mc n → k_ag (kf s_dc N (n, q)).1 (kf s_dc N (m, q')).1
  | 0, _ => h
  | N + 1, hN => by
    have ih := ag_dc (q := q) (q' := q') hA h N (by omega)
    have iA := s_A_dc (q := q) hA N (by omega)
    have em := k_mc_0 (s_dc_0 N (n, q))
    have h12 := hA.1.1
    show k_ag (s_dc N (kf s_dc N (n, q))).1 (s_dc N (kf s_dc N (m, q'))).1
    generalize kf s_dc N (n, q) = s at ih iA em ⊢
    generalize kf s_dc N (m, q') = s' at ih ⊢
    unfold s_dc
    rw [← ag_3 ih (i := N) (f := 4) (by omega) (by decide), ← ag_3 ih (i := N) (f := 8) (by omega) (by decide)]
    by_cases c : s.1 3 N 4 = 1 ∧ s.1 3 N 8 = -1
    · rw [if_pos c, if_pos c]
      exact ag_ch iA ih s.2 s'.2 (by rw [em]; exact hN) c.1
    · rw [if_neg c, if_neg c]; exact ih
theorem ag_kf {P : ch_N → Prop} {f : Nat → ch_N → ch_N} {M : Nat} (h0 : ∀ i n, (f i n) 0 = n 0) (hP : ∀ i n, P n → P (f i n)) (hf : ∀ i n m, i < M → k_mc n = M → P n → k_ag n m → k_ag (f i n) (f i m)) : ∀ (N : Nat) (n m : ch_N), N ≤ M → k_mc n = M → P n → k_ag n m → P (kf f N n) ∧ k_ag (kf f N n) (kf f N m)
  | 0, _, _, _, _, p, h => ⟨p, h⟩
  | N + 1, n, m, hN, hM, p, h => by
    obtain ⟨a, b⟩ := ag_kf h0 hP hf N n m (by omega) hM p h
    rw [kf_s, kf_s]
    exact ⟨hP N _ a, hf N _ _ (by omega) (by rw [k_mc_0 (show kf f N n 0 = n 0 from kf_0 h0 N n)]; exact hM) a b⟩
theorem ag_kfc {P : ch_N → Prop} {f : Nat → ch_N → ch_N} {M : Nat} (h0 : ∀ i n, (f i n) 0 = n 0) (hP : ∀ i n, P n → P (f i n)) (hf : ∀ i n m, i < M → k_cc n = M → P n → k_ag n m → k_ag (f i n) (f i m)) : ∀ (N : Nat) (n m : ch_N), N ≤ M → k_cc n = M → P n → k_ag n m → P (kf f N n) ∧ k_ag (kf f N n) (kf f N m)
  | 0, _, _, _, _, p, h => ⟨p, h⟩
  | N + 1, n, m, hN, hM, p, h => by
    obtain ⟨a, b⟩ := ag_kfc h0 hP hf N n m (by omega) hM p h
    rw [kf_s, kf_s]
    exact ⟨hP N _ a, hf N _ _ (by omega) (by rw [k_cc_0 (show kf f N n 0 = n 0 from kf_0 h0 N n)]; exact hM) a b⟩
theorem ag_t1 {n m : ch_N} {X : Nat} (hA : s_A X n) (h : k_ag n m) : k_ag (k_t1 n) (k_t1 m) := by
  unfold k_t1
  dsimp only
  have h12 : ∀ {n : ch_N}, s_A X n → k_mc n ≤ 12 := fun h => h.1.1
  obtain ⟨p1, h1⟩ := ag_kf (P := s_A X) k_mv_0 (s_A_mv X) (fun i a b hi hM p g => ag_mv g (by have := p.1.1; omega)) (k_mc n) n m (Nat.le_refl _) rfl hA h
  rw [← k_ag_mc h]
  generalize kf s_mv (k_mc n) n = n1 at p1 h1 ⊢
  generalize kf s_mv (k_mc n) m = m1 at h1 ⊢
  obtain ⟨p2, h2⟩ := ag_kf (P := s_A X) s_ms_0 (s_A_ms X) (fun i a b hi hM p g => ag_ms g (by have := p.1.1; omega) p.1.2 (fun t => by obtain ⟨s, hs, e⟩ := p.2.2.2.2.2.2.1 i (by omega) t; exact ⟨s, by have := p.1.2; omega, e⟩)) (k_mc n1) n1 m1 (Nat.le_refl _) rfl p1 h1
  rw [← k_ag_mc h1]
  generalize kf s_ms (k_mc n1) n1 = n2 at p2 h2 ⊢
  generalize kf s_ms (k_mc n1) m1 = m2 at h2 ⊢
  obtain ⟨p3, h3⟩ := ag_kf (P := s_A X) s_fin_0 (s_A_fin X) (fun i a b hi hM p g => ag_fin g (by have := p.1.1; omega)) (k_mc n2) n2 m2 (Nat.le_refl _) rfl p2 h2
  rw [← k_ag_mc h2]
  generalize kf s_fin (k_mc n2) n2 = n3 at p3 h3 ⊢
  generalize kf s_fin (k_mc n2) m2 = m3 at h3 ⊢
  obtain ⟨p4, h4⟩ := ag_kf (P := s_A X) s_dr_0 (s_A_dr X) (fun i a b hi hM p g => ag_dr g (by have := p.1.1; omega)) (k_mc n3) n3 m3 (Nat.le_refl _) rfl p3 h3
  rw [← k_ag_mc h3]
  generalize kf s_dr (k_mc n3) n3 = n4 at p4 h4 ⊢
  generalize kf s_dr (k_mc n3) m3 = m4 at h4 ⊢
  rw [← k_ag_cc h4]
  exact ag_svs p4 h4 (k_cc n4) (Nat.le_refl _)
theorem ag_t3 {n m : ch_N} {X : Nat} (hA : s_A X n) (h : k_ag n m) : k_ag (k_t3 n) (k_t3 m) := by
  unfold k_t3
  dsimp only
  obtain ⟨p1, h1⟩ := ag_kfc (P := s_A X) s_cg_0 (s_A_cgs X) (fun i a b hi hM p g => ag_cg g p.1.1 (by have := p.1.2; omega)) (k_cc n) n m (Nat.le_refl _) rfl hA h
  rw [← k_ag_cc h]
  generalize kf s_cg (k_cc n) n = n1 at p1 h1 ⊢
  generalize kf s_cg (k_cc n) m = m1 at h1 ⊢
  obtain ⟨p2, h2⟩ := ag_kf (P := s_A X) s_ex_0 (s_A_ex X) (fun i a b hi hM p g => ag_ex g (by have := p.1.1; omega)) (k_mc n1) n1 m1 (Nat.le_refl _) rfl p1 h1
  rw [← k_ag_mc h1]
  generalize kf s_ex (k_mc n1) n1 = n2 at p2 h2 ⊢
  generalize kf s_ex (k_mc n1) m1 = m2 at h2 ⊢
  exact ag_nwv h2 0 0 3 (by rw [ag_0 h2 (f := 3) (by decide)])
theorem ag_tick {n m q q' : ch_N} {X : Nat} (hA : s_A X n) (h : k_ag n m) : k_ag (k_tick (n, q)).1 (k_tick (m, q')).1 := by
  unfold k_tick
  dsimp only
  have h1 := ag_t1 hA h
  have a1 := s_A_t1 hA
  generalize k_t1 n = a at h1 a1 ⊢
  generalize k_t1 m = b at h1 ⊢
  rw [← k_ag_mc h1]
  exact ag_t3 (s_A_dc (q := q) a1 (k_mc a) (Nat.le_refl _)) (ag_dc a1 h1 (k_mc a) (Nat.le_refl _))
theorem ag_adv : ∀ (N X : Nat) (s s' : ch_N × ch_N), s_A X s.1 → k_ag s.1 s'.1 → s_A (X + 108 * N) (k_adv N s).1 ∧ k_ag (k_adv N s).1 (k_adv N s').1
  | 0, _, _, _, hA, h => ⟨hA, h⟩
  | N + 1, X, s, s', hA, h => by
    obtain ⟨p, g⟩ := ag_adv N X s s' hA h
    show s_A _ (k_tick (k_adv N s)).1 ∧ k_ag (k_tick (k_adv N s)).1 (k_tick (k_adv N s')).1
    generalize k_adv N s = t at p g ⊢
    generalize k_adv N s' = t' at g ⊢
    obtain ⟨a, b⟩ := t
    obtain ⟨a', b'⟩ := t'
    refine ⟨?_, ag_tick p g⟩
    have := s_A_tick (q := b) p
    rwa [show X + 108 * (N + 1) = X + 108 * N + 108 by omega]
end AG4
