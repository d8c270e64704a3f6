/-! THE LAW: candidates' margins -/
def o_f15 (μ μ' : ch_M) : Prop := (∀ k, k ≠ 15 → μ' k = μ k) ∧ ∀ kd, kd ≤ 16 → μ' 15 kd = μ 15 kd
theorem o_f15_0 {μ : ch_M} : o_f15 μ μ := ⟨fun _ _ => rfl, fun _ _ => rfl⟩
theorem o_f15_up {μ μ' : ch_M} {n : ch_N} {i : Nat} (h : o_f15 μ μ') : o_f15 μ (up μ' 15 (k_rank n (μ' 15) i)) := ⟨fun k hk => (up_n hk).trans (h.1 k hk), fun kd hk => by rw [up_s, k_rank_k _ _ _ hk]; exact h.2 kd hk⟩
theorem o_NW_up15 {n : ch_N} {w : Nat → Int32} {S : ch_S} {μ : ch_M} {q : ch_N} (h : o_NW n w S μ) : o_NW n w S (up μ 15 q) := o_NW_x h rfl rfl rfl rfl rfl (up_n (by decide)) (up_n (by decide))
def s_rv (n : ch_N) (c : Nat) (v : Int32) : Int32 := v + k_rq n (nI c)
def s_sb (n : ch_N) (a b : Nat) (v : Int32) : Int32 := v + n 2 (8 * a + b) 2
def s_sa (n : ch_N) (a : Nat) (v : Int32) : Int32 := kf (s_sb n a) (k_cc n) v
def s_bz (n : ch_N) (c i : Nat) (r : Int32) : Int32 := if n 3 i 5 = nI c then r + 1 else r
/-- what isSound asks of a network, beyond what every network keeps -/
def o_Snd (n : ch_N) : Prop := (∀ c, c < k_cc n → ¬ n 1 c 4 < k_tk n (nI c)) ∧ (∀ c, c < k_cc n → ¬ n 1 c 5 < k_rq n (nI c)) ∧ (∀ c, c < k_cc n → ¬ n 0 0 3 < n 1 c 8) ∧ kf (s_sa n) (k_cc n) 0 = n 7 0 0 ∧ ¬ n 7 0 0 < n 7 0 1 ∧ ¬ n 7 0 5 < 0 ∧ ∀ r, r < 64 → ¬ 30 < n 2 r 1
theorem s_sum {n : ch_N} {m a : Nat} : ∀ q, q ≤ 8 → (∀ t, t < q → ¬ n 4 m (a + t) < 0 ∧ ¬ 99 < n 4 m (a + t)) → ∃ s, s ≤ 99 * q ∧ k_sum n m a q = nI s
  | 0, _, _ => ⟨0, Nat.le_refl _, rfl⟩
  | q + 1, hq, h => by
    obtain ⟨s, hs, e⟩ := s_sum q (by omega) (fun t ht => h t (by omega))
    obtain ⟨x, hx, ex⟩ := r_bd (k := 99) (by decide) (h q (by omega)).1 (h q (by omega)).2
    refine ⟨s + x, by omega, ?_⟩
    show k_sum n m a q + n 4 m (a + q) = _
    rw [e, ex, nI_add]
theorem s_avg {n : ch_N} {w : Nat → Int32} (hr : r_N n w) {m c : Nat} (hm : m < k_mc n) (ht : n 3 m 4 = 1) (hc : c < 8) (hp : ¬ k_avg n m (nI c) = -1) : ∃ a, a ≤ 99 ∧ k_avg n m (nI c) = nI a := by
  have hp0 : 0 < n 5 m c := by
    rcases r_avg hr hm ht hc with z | z
    · exact absurd z.2 hp
    · exact z.1
  have h58 := r_c58 hr (show m < 13 by have := r_m12 hr hm; omega) hc
  obtain ⟨N, hN, eN⟩ := nI_of h58.1
  rw [eN, nI_clamp (by omega)] at h58
  have hN0 : 0 < N := by
    rcases Nat.eq_zero_or_pos N with z | z
    · rw [eN, z] at hp0; exact absurd hp0 (by decide)
    · exact z
  obtain ⟨s, hs, es⟩ := s_sum (n := n) (m := m) (a := 8 * c) N h58.2 (fun t ht' => (hr.2.2.2.2.1 m hm).2.2.2.2.2.2.2.2.2.2.2.2.2 ht c t hc (by rw [eN, nI_clamp (by omega)]; exact ht'))
  refine ⟨s / N, ?_, ?_⟩
  · exact Nat.le_trans (Nat.div_le_div_right (c := N) hs) (by rw [Nat.mul_div_cancel _ hN0]; exact Nat.le_refl _)
  · unfold k_avg
    rw [k_rep_c hc, if_pos hp0, eN, nI_clamp (by omega), nI_clamp (by omega), es, pk_div (by omega) (by omega) (by omega)]
theorem s_gp {n : ch_N} {em : Int32} {m s b : Nat} (hs : s < 8) (hb : b < 8) (h5 : n 3 m 5 = nI s) (h : 0 < o_g n em m b) : ¬ n 2 (8 * s + b) 0 = 0 ∧ ¬ n 5 m b < n 0 0 5 ∧ ¬ (em = 0 ∧ ¬ n 6 m b < n 0 0 3) ∧ ¬ k_avg n m (nI b) < n 1 b 6 ∧ o_g n em m b = k_avg n m (nI b) - k_avg n m (nI s) - (if em = 0 then n 2 (8 * s + b) 1 else 0) := by
  rw [o_gE hs hb h5] at h
  have h00 : ¬ (0 : Int32) < 0 := Int32.lt_irrefl
  by_cases h1 : n 2 (8 * s + b) 0 = 0
  · rw [if_pos h1] at h; exact absurd h h00
  rw [if_neg h1] at h
  by_cases h2 : n 5 m b < n 0 0 5
  · rw [if_pos h2] at h; exact absurd h h00
  rw [if_neg h2] at h
  by_cases h3 : em = 0 ∧ ¬ n 6 m b < n 0 0 3
  · rw [if_pos h3] at h; exact absurd h h00
  rw [if_neg h3] at h
  by_cases h4 : k_avg n m (nI b) < n 1 b 6
  · rw [if_pos h4] at h; exact absurd h h00
  refine ⟨h1, h2, h3, h4, ?_⟩
  rw [o_gE hs hb h5, if_neg h1, if_neg h2, if_neg h3, if_neg h4]
  by_cases h6 : em = 0
  · rw [if_pos h6, if_pos h6]
  · rw [if_neg h6, if_neg h6, Int32.sub_zero]
/-- a candidate's margin and what isSound computes of it, as numbers -/
theorem s_its {n : ch_N} {w : Nat → Int32} (hr : r_N n w) (hKG : k_G n) (h30 : ∀ r, r < 64 → ¬ 30 < n 2 r 1) {em : Int32} {m s b : Nat} (hm : m < k_mc n) (ht : n 3 m 4 = 1) (hs : s < k_cc n) (hb : b < k_cc n) (h5 : n 3 m 5 = nI s) (hav : ¬ k_avg n m (n 3 m 5) = -1) (h : 0 < o_g n em m b) :
    ∃ A B H G, k_avg n m (nI s) = nI A ∧ k_avg n m (nI b) = nI B ∧ (if em = 0 then n 2 (8 * s + b) 1 else 0) = nI H ∧ o_g n em m b = nI G ∧ A ≤ 99 ∧ B ≤ 99 ∧ 0 < G ∧ G + A + H = B := by
  have hc8 := hr.2.2.2.2.2.2.1
  obtain ⟨g1, g2, g3, g4, g5⟩ := s_gp (by omega) (by omega) h5 h
  have hK0 : 0 < n 0 0 5 := hr.2.1.2.1.2.2.1
  have hb0 : 0 < n 5 m b := Int32.lt_of_lt_of_le hK0 (Int32.not_lt.mp g2)
  have hbv : ¬ k_avg n m (nI b) = -1 := by
    rcases r_avg hr hm ht (show b < 8 by omega) with z | z
    · rw [z.1] at hb0; exact absurd hb0 Int32.lt_irrefl
    · exact z.2.2
  obtain ⟨A, hA, eA⟩ := s_avg hr hm ht (show s < 8 by omega) (by rw [← h5]; exact hav)
  obtain ⟨B, hB, eB⟩ := s_avg hr hm ht (show b < 8 by omega) hbv
  obtain ⟨H, hH, eH⟩ : ∃ H, H ≤ 30 ∧ (if em = 0 then n 2 (8 * s + b) 1 else 0) = nI H := by
    by_cases z : em = 0
    · rw [if_pos z]
      obtain ⟨H, hH, e⟩ := r_bd (k := 30) (by decide) (hKG.2 (8 * s + b) (by omega)) (h30 (8 * s + b) (by omega))
      exact ⟨H, hH, e⟩
    · rw [if_neg z]; exact ⟨0, by decide, rfl⟩
  rw [eA, eB, eH] at g5
  have hle : A + H < B := by
    rcases Nat.lt_or_ge (A + H) B with z | z
    · exact z
    · exfalso
      rw [g5] at h
      have e : nI B - nI A - nI H = nI B - nI (A + H) := by rw [← nI_add, Int32.sub_eq_add_neg, Int32.sub_eq_add_neg, Int32.sub_eq_add_neg, Int32.neg_add, Int32.add_assoc, Int32.sub_eq_add_neg (-nI A)]
      rw [e] at h
      rcases Nat.lt_or_ge B (A + H) with y | y
      · have := pk_sneg (a := B) (b := A + H) (by omega) y
        exact Int32.lt_irrefl (Int32.lt_trans h this)
      · have : A + H = B := by omega
        rw [this, Int32.sub_self] at h
        exact Int32.lt_irrefl h
  refine ⟨A, B, H, B - A - H, eA, eB, eH, ?_, hA, hB, by omega, by omega⟩
  rw [g5, pk_sub (by omega), pk_sub (by omega)]
