/-! a tick keeps it -/
theorem s_A_mv (X i : Nat) (n : ch_N) (h : s_A X n) : s_A X (s_mv i n) := by
  unfold s_mv k_mv
  exact s_A_3 (s_A_3 h (by decide)) (by decide)
theorem s_A_ms (X i : Nat) (n : ch_N) (h : s_A X n) : s_A X (s_ms i n) := by
  unfold s_ms
  split
  · have e : ∀ kd, kd ≠ 4 → kd ≠ 5 → k_ms n i kd = n kd := fun kd a b => k_msL_k i _ n a b
    exact s_A_cg h (e 0 (by decide) (by decide)) (fun c => by rw [e 1 (by decide) (by decide)]; exact ⟨rfl, rfl⟩) (fun r => by rw [e 2 (by decide) (by decide)]; exact ⟨rfl, rfl⟩) (fun j => by rw [e 3 (by decide) (by decide)]; exact ⟨Or.inl ⟨rfl, rfl⟩, Or.inl rfl⟩) (by rw [e 7 (by decide) (by decide)]; exact ⟨rfl, rfl, rfl⟩)
  · exact h
theorem s_A_fin (X i : Nat) (n : ch_N) (h : s_A X n) : s_A X (s_fin i n) := by
  unfold s_fin
  split
  · rw [k_fin_eq]
    split
    · exact s_A_3 h (by decide)
    · exact s_A_cnt (s_A_idle h i) (by decide)
  · exact h
theorem s_A_dr (X i : Nat) (n : ch_N) (h : s_A X n) : s_A X (s_dr i n) := by
  unfold s_dr
  split
  · obtain ⟨v, hv⟩ : ∃ v, v = if k_avg n i (n 3 i 5) < n 0 0 8 then n 3 i 7 + 1 else 0 := ⟨_, rfl⟩
    rw [k_dr_eq n i v hv]
    split
    · exact s_A_3 h (by decide)
    · exact s_A_cnt (s_A_idle h i) (by decide)
  · exact h
theorem s_A_ex (X i : Nat) (n : ch_N) (h : s_A X n) : s_A X (s_ex i n) := by
  unfold s_ex
  split
  · exact h
  · split
    · exact h
    · rw [k_ex_eq]
      split
      · exact s_A_cnt (s_A_idle (s_A_cnt h (by decide)) i) (by decide)
      · exact s_A_8 (s_A_cnt h (by decide))
theorem s_A_cgs (X c : Nat) (n : ch_N) (h : s_A X n) : s_A X (s_cg c n) := by
  unfold s_cg
  split
  · exact h
  · exact s_A_cg h (nw_k (by decide)) (fun d => ⟨by rw [nw_at, if_neg (by omega)], by rw [nw_at, if_neg (by omega)]⟩) (fun r => by rw [nw_k (by decide)]; exact ⟨rfl, rfl⟩) (fun j => by rw [nw_k (by decide)]; exact ⟨Or.inl ⟨rfl, rfl⟩, Or.inl rfl⟩) (by rw [nw_k (by decide)]; exact ⟨rfl, rfl, rfl⟩)
theorem s_A_clk {X : Nat} {n : ch_N} (h : s_A X n) (v : Int32) : s_A X (nw n 0 0 3 v) :=
  s_A_cg' h (by unfold k_cc; rw [nw_at, if_neg (by omega)]) (by unfold k_mc; rw [nw_at, if_neg (by omega)]) (fun c => by rw [nw_k (by decide)]; exact ⟨rfl, rfl⟩) (fun r => by rw [nw_k (by decide)]; exact ⟨rfl, rfl⟩) (fun j => by rw [nw_k (by decide)]; exact ⟨Or.inl ⟨rfl, rfl⟩, Or.inl rfl⟩) (by rw [nw_k (by decide)]; exact ⟨rfl, rfl, rfl⟩)
theorem s_A_kf {X : Nat} {f : Nat → ch_N → ch_N} (hf : ∀ i n, s_A X n → s_A X (f i n)) : ∀ (N : Nat) (n : ch_N), s_A X n → s_A X (kf f N n)
  | 0, _, h => h
  | N + 1, n, h => hf N _ (s_A_kf hf N n h)
theorem s_A_sv {X : Nat} {n : ch_N} (h : s_A X n) {m c : Nat} (hm : m < k_mc n) (hc : c < k_cc n) (hfr : k_free n (nI c) = true) : s_A (X + 1) (k_sv n m (nI c)) := by
  unfold k_sv
  refine s_A_cnt ?_ (by decide)
  split
  · exact s_A_ho h hm (by assumption) hc hfr
  · exact s_A_mono (s_A_beg h m hc hfr) (by omega)
theorem s_A_svL {c : Nat} : ∀ (j X : Nat) (n : ch_N), s_A X n → c < k_cc n → s_A (X + j) (k_svL (nI c) j n)
  | 0, X, n, h, _ => h
  | j + 1, X, n, h, hc => by
    show s_A (X + (j + 1)) (if k_free n (nI c) = true then (if k_qm n (nI c) 0 = -1 then n else k_svL (nI c) j (k_sv n (k_ix 12 12 (k_qm n (nI c) 0)) (nI c))) else n)
    by_cases hfr : k_free n (nI c) = true
    · rw [if_pos hfr]
      rcases r_q0 h.1.1 (nI c) with ⟨e, -⟩ | ⟨m, hm, e, -, -⟩
      · rw [if_pos e]; exact s_A_mono h (by omega)
      · have hm12 := h.1.1
        rw [e, if_neg (nI_nm1 (by omega)), k_mob (by omega)]
        have := s_A_svL j (X + 1) _ (s_A_sv h hm hc hfr) (by rw [k_cc_0 (k_sv_0 n m (nI c))]; exact hc)
        rw [show X + (j + 1) = X + 1 + j by omega]; exact this
    · rw [if_neg hfr]; exact s_A_mono h (by omega)
theorem s_A_svs {X : Nat} {n : ch_N} (h : s_A X n) : ∀ N, N ≤ k_cc n → s_A (X + 12 * N) (kf s_sv N n)
  | 0, _ => h
  | N + 1, hN => by
    rw [kf_s]
    have := s_A_svL (c := N) 12 _ _ (s_A_svs h N (by omega)) (by rw [k_cc_0 (show kf s_sv N n 0 = n 0 from kf_0 (fun c n => k_svL_0 (nI c) 12 n) N n)]; omega)
    rw [show X + 12 * (N + 1) = X + 12 * N + 12 by omega]; exact this
theorem s_A_c1 {q : ch_N} {i N cc : Nat} (hq : ∀ k, k < N → ∃ c, c < cc ∧ k_car q (nI k) = nI c) {X : Nat} : ∀ (j : Nat), j ≤ N → ∀ (n : ch_N), s_A X n → k_cc n = cc → i < k_mc n → n 3 i 4 = 1 →
    ((k_c1 q i N j n).1 = true → s_A (X + 1) (k_c1 q i N j n).2) ∧ (¬ (k_c1 q i N j n).1 = true → s_A X (k_c1 q i N j n).2 ∧ k_cc (k_c1 q i N j n).2 = cc)
  | 0, _, n, h, hcc, _, _ => ⟨fun z => absurd (show false = true from z) (by decide), fun _ => ⟨h, hcc⟩⟩
  | j + 1, hj, n, h, hcc, hi, ht => by
    obtain ⟨c, hc, ec⟩ := hq (N - (j + 1)) (by omega)
    unfold k_c1
    rw [ec]
    by_cases hfr : k_free n (nI c) = true
    · rw [if_pos hfr]
      exact ⟨fun _ => s_A_ho h hi ht (by omega) hfr, fun z => absurd rfl z⟩
    · rw [if_neg hfr]
      exact s_A_c1 hq j (by omega) _ (s_A_ref h i (nI c)) (by rw [k_cc_0 (k_ref_ne (by decide))]; exact hcc) (by rw [k_mc_0 (k_ref_ne (by decide))]; exact hi) (by rw [k_ref_ne (by decide)]; exact ht)
theorem s_A_c2 {q : ch_N} {i N cc : Nat} (hq : ∀ k, k < N → ∃ c, c < cc ∧ k_car q (nI k) = nI c) {X : Nat} : ∀ (j : Nat), j ≤ N → ∀ (n : ch_N), s_A X n → k_cc n = cc → s_A X (k_c2 q i N j n)
  | 0, _, n, h, _ => h
  | j + 1, hj, n, h, hcc => by
    obtain ⟨c, hc, ec⟩ := hq (N - (j + 1)) (by omega)
    unfold k_c2
    rw [ec]
    by_cases hp : k_place n (nI c) = true
    · rw [if_pos hp]; exact s_A_mrq h i (by omega) hp
    · rw [if_neg hp]; exact s_A_c2 hq j (by omega) n h hcc
theorem s_A_ch {X : Nat} {n : ch_N} (h : s_A X n) (q : ch_N) {i : Nat} (hi : i < k_mc n) (ht : n 3 i 4 = 1) : s_A (X + 1) (k_ch n q i).1 := by
  obtain ⟨t, ht8, e0, hr, -⟩ := k_rank_in (n := n) (q := q) (i := i) h.1.2
  have h8 := h.1.2
  have hq : ∀ k, k < t → ∃ c, c < k_cc n ∧ k_car (k_rank n q i) (nI k) = nI c := fun k hk => by
    obtain ⟨c, hc, ec, -⟩ := hr k hk
    exact ⟨c, hc, (k_car_c e0 hk (by omega)).trans ec⟩
  obtain ⟨g1, g2⟩ := s_A_c1 (i := i) hq t (Nat.le_refl _) n h rfl hi ht
  unfold k_ch
  dsimp only
  rw [e0, nI_clamp (by omega)]
  by_cases c : (k_c1 (k_rank n q i) i t t n).1 = true
  · rw [if_pos c]; exact g1 c
  · rw [if_neg c]
    obtain ⟨k1, k2⟩ := g2 c
    split
    · exact s_A_mono k1 (by omega)
    · exact s_A_mono (s_A_c2 hq t (Nat.le_refl _) _ k1 k2) (by omega)
theorem s_A_dc {X : Nat} {n q : ch_N} (h : s_A X n) : ∀ N, N ≤ k_mc n → s_A (X + N) (kf s_dc N (n, q)).1
  | 0, _ => h
  | N + 1, hN => by
    have ih := s_A_dc (q := q) h N (by omega)
    have em := k_mc_0 (s_dc_0 N (n, q))
    show s_A (X + (N + 1)) (s_dc N (kf s_dc N (n, q))).1
    generalize kf s_dc N (n, q) = s at ih em ⊢
    unfold s_dc
    by_cases c : s.1 3 N 4 = 1 ∧ s.1 3 N 8 = -1
    · rw [if_pos c]
      exact s_A_ch ih s.2 (by rw [em]; exact hN) c.1
    · rw [if_neg c]; exact s_A_mono ih (by omega)
theorem s_A_t1 {X : Nat} {n : ch_N} (h : s_A X n) : s_A (X + 96) (k_t1 n) := by
  unfold k_t1
  dsimp only
  have h1 := s_A_kf (s_A_mv X) (k_mc n) n h
  generalize kf s_mv (k_mc n) n = n1 at h1 ⊢
  have h2 := s_A_kf (s_A_ms X) (k_mc n1) n1 h1
  generalize kf s_ms (k_mc n1) n1 = n2 at h2 ⊢
  have h3 := s_A_kf (s_A_fin X) (k_mc n2) n2 h2
  generalize kf s_fin (k_mc n2) n2 = n3 at h3 ⊢
  have h4 := s_A_kf (s_A_dr X) (k_mc n3) n3 h3
  generalize kf s_dr (k_mc n3) n3 = n4 at h4 ⊢
  have h8 := h4.1.2
  exact s_A_mono (s_A_svs h4 (k_cc n4) (Nat.le_refl _)) (by omega)
theorem s_A_t3 {X : Nat} {n : ch_N} (h : s_A X n) : s_A X (k_t3 n) := by
  unfold k_t3
  dsimp only
  have h1 := s_A_kf (s_A_cgs X) (k_cc n) n h
  generalize kf s_cg (k_cc n) n = n1 at h1 ⊢
  have h2 := s_A_kf (s_A_ex X) (k_mc n1) n1 h1
  generalize kf s_ex (k_mc n1) n1 = n2 at h2 ⊢
  exact s_A_clk h2 _
theorem s_A_tick {X : Nat} {n q : ch_N} (h : s_A X n) : s_A (X + 108) (k_tick (n, q)).1 := by
  unfold k_tick
  dsimp only
  have h1 := s_A_t1 h
  generalize k_t1 n = a at h1 ⊢
  have h2 := s_A_dc (q := q) h1 (k_mc a) (Nat.le_refl _)
  have h12 := h1.1.1
  exact s_A_mono (s_A_t3 h2) (by omega)
/-! other acts keep it -/
theorem s_A_su {X : Nat} {n : ch_N} (h : s_A X n) (i : Nat) (d : Int32) {s : Nat} (hs : s < k_cc n) : s_A (X + 1) (k_su n i d (nI s)).2 := by
  have h8 := h.1.2
  have hb : k_suc n i (nI s) = -1 ∨ ∃ b, b < k_cc n ∧ k_suc n i (nI s) = nI b ∧ k_free n (nI b) = true := by
    unfold k_suc
    by_cases c : k_free n (nI s) = true
    · rw [if_pos c]; exact Or.inr ⟨s, hs, rfl, c⟩
    · rw [if_neg c]
      have key : ∀ N, N ≤ k_cc n → (k_rc n (nI s) (n 3 i 0) (n 3 i 1) N).1 = -1 ∨ ∃ b, b < N ∧ (k_rc n (nI s) (n 3 i 0) (n 3 i 1) N).1 = nI b ∧ k_free n (nI b) = true := by
        intro N
        induction N with
        | zero => exact fun _ => Or.inl rfl
        | succ N ih =>
          intro hN
          rw [o_rc_s]
          split
          · rename_i z; exact Or.inr ⟨N, by omega, rfl, z.2.2.2⟩
          · rcases ih (by omega) with g | ⟨b, g1, g2, g3⟩
            · exact Or.inl g
            · exact Or.inr ⟨b, by omega, g2, g3⟩
      exact key _ (Nat.le_refl _)
  unfold k_su
  rcases hb with e | ⟨b, hb, e, hfr⟩
  · rw [if_pos e]
    split
    · rename_i hp
      refine s_A_mono (X := X) ?_ (by omega)
      exact s_A_wfs (s_A_3 h (i := i) (f := 6) (v := d) (by decide)) i (by rw [k_cc_0 (nw_k (by decide))]; exact hs) (by unfold k_place at hp ⊢; rw [nw_k (by decide)]; unfold k_rq at hp ⊢; rw [k_mc_0 (nw_k (by decide))]; simpa [nw_at] using hp)
    · exact s_A_mono (s_A_cnt h (by decide)) (by omega)
  · rw [if_neg (by rw [e]; exact nI_nm1 (by omega))]
    dsimp only
    rw [e]
    have h5 : s_A (X + 1) (if nI b = nI s then n else k_cnt n 5) ∧ k_cc (if nI b = nI s then n else k_cnt n 5) = k_cc n ∧ k_mc (if nI b = nI s then n else k_cnt n 5) = k_mc n ∧ (if nI b = nI s then n else k_cnt n 5) 3 = n 3 ∧ (if nI b = nI s then n else k_cnt n 5) 1 = n 1 := by
      split
      · exact ⟨s_A_mono h (by omega), rfl, rfl, rfl, rfl⟩
      · refine ⟨?_, k_cc_0 (k_cnt_0 n 5), k_mc_0 (k_cnt_0 n 5), k_cnt_3 n 5, k_cnt_k n 5 (by decide)⟩
        obtain ⟨a0, a1, a2, a3, ⟨x, y, z, ex, ey, ez, q1, q2⟩, a5, a6, a7⟩ := h
        have e7 : ∀ k, k ≠ 5 → k_cnt n 5 7 0 k = n 7 0 k := fun k hk => by unfold k_cnt; rw [nw_at, if_neg (fun z => hk z.2.2)]
        have e2 : k_cnt n 5 2 = n 2 := k_cnt_k n 5 (by decide)
        have e1 : k_cnt n 5 1 = n 1 := k_cnt_k n 5 (by decide)
        have e3 : k_cnt n 5 3 = n 3 := k_cnt_3 n 5
        have ec := k_cc_0 (k_cnt_0 n 5)
        have em := k_mc_0 (k_cnt_0 n 5)
        refine ⟨by rw [ec, em]; exact a0, fun c hc => by rw [ec] at hc; unfold o_T; rw [e1, e3, em]; exact a1 c hc, fun c hc => by rw [ec] at hc; unfold o_W; rw [e1, e3, em]; exact a2 c hc, by rw [ec, s_sa_cg (fun r => by rw [e2]) ec, e7 0 (by decide)]; exact a3, ⟨x, y, z + 1, by rw [e7 0 (by decide)]; exact ex, by rw [e7 1 (by decide)]; exact ey, by unfold k_cnt; rw [nw_at, if_pos ⟨rfl, rfl, rfl⟩, ez, nI_1], q1, by omega⟩, fun r hr => by rw [e2]; obtain ⟨v, q3, q4⟩ := a5 r hr; exact ⟨v, q3, by omega⟩, fun j hj => by rw [em] at hj; rw [e3, ec]; exact a6 j hj, fun r hr => by rw [e2]; exact a7 r hr⟩
    generalize (if nI b = nI s then n else k_cnt n 5) = n1 at h5 ⊢
    obtain ⟨g0, gc, gm, g3, g1⟩ := h5
    refine s_A_beg (s_A_3 g0 (i := i) (f := 6) (v := d) (by decide)) i (by rw [k_cc_0 (nw_k (by decide)), gc]; exact hb) ?_
    unfold k_free at hfr ⊢
    rw [nw_k (by decide), g1]
    unfold k_tk at hfr ⊢
    rw [k_mc_0 (nw_k (by decide)), gm]
    simpa [nw_at, g3] using hfr
