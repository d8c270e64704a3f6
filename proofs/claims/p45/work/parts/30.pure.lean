/-! THE REFERENCE: a row w of 1302 numbers; how it holds a network n -/
def r_R (n : ch_N) (w : Nat → Int32) : Prop :=
  (¬ w 1 < 0 ∧ Int32.toNatClampNeg (w 1) ≤ 24) ∧
  (∀ r, r < Int32.toNatClampNeg (w 1) → ∃ a b, a < k_cc n ∧ b < k_cc n ∧ w (90 + 5 * r) = nI a ∧ w (90 + 5 * r + 1) = nI b ∧ n 2 (8 * a + b) 0 = 1 ∧ w (90 + 5 * r + 2) = n 2 (8 * a + b) 1 ∧ w (90 + 5 * r + 3) = n 2 (8 * a + b) 2 ∧ w (90 + 5 * r + 4) = n 2 (8 * a + b) 3) ∧
  (∀ r t, r < Int32.toNatClampNeg (w 1) → t < Int32.toNatClampNeg (w 1) → w (90 + 5 * r) = w (90 + 5 * t) → w (90 + 5 * r + 1) = w (90 + 5 * t + 1) → r = t) ∧
  (∀ a b, a < 8 → b < 8 → ¬ n 2 (8 * a + b) 0 = 0 → ∃ r, r < Int32.toNatClampNeg (w 1) ∧ w (90 + 5 * r) = nI a ∧ w (90 + 5 * r + 1) = nI b) ∧
  (∀ a b, a < 8 → b < 8 → n 2 (8 * a + b) 0 = 0 → n 2 (8 * a + b) 2 = 0 ∧ n 2 (8 * a + b) 3 = 0)
def r_M (n : ch_N) (w : Nat → Int32) (m : Nat) : Prop :=
  (∀ f, f < 7 → w (210 + 91 * m + f) = n 3 m f) ∧ w (210 + 91 * m + 8) = n 3 m 8 ∧
  (n 3 m 4 = 1 → w (210 + 91 * m + 7) = n 3 m 7 ∧ ∀ c, c < 8 → w (210 + 91 * m + (11 + c)) = n 6 m c ∧ w (210 + 91 * m + (19 + c)) = n 5 m c ∧ ∀ k, k < Int32.toNatClampNeg (n 5 m c) → w (210 + 91 * m + (27 + 8 * c + k)) = n 4 m (8 * c + k)) ∧
  (¬ n 3 m 8 = -1 → w (210 + 91 * m + 10) = n 3 m 9 ∧ w (210 + 91 * m + 9) = if n 3 m 4 = 1 then 0 else 1) ∧
  (n 3 m 4 = 0 ∨ n 3 m 4 = 1 ∨ n 3 m 4 = 2) ∧ (n 3 m 4 = 1 → ∃ s, s < k_cc n ∧ n 3 m 5 = nI s) ∧ (¬ n 3 m 4 = 1 → n 3 m 5 = -1 ∧ ∀ c, c < 8 → n 5 m c = 0 ∧ n 6 m c = -1) ∧
  (n 3 m 4 = 0 → n 3 m 8 = -1) ∧ (n 3 m 4 = 2 → ¬ n 3 m 8 = -1) ∧ (n 3 m 8 = -1 ∨ ∃ c, c < k_cc n ∧ n 3 m 8 = nI c) ∧ (¬ n 3 m 4 = 0 → 0 < n 3 m 6) ∧
  (n 3 m 4 = 1 → ∀ c, c < 8 → n 3 m 8 = nI c → ¬ n 2 (k_rx (n 3 m 5) (nI c)) 0 = 0) ∧
  (¬ n 3 m 0 < 0 ∧ ¬ 999 < n 3 m 0 ∧ ¬ n 3 m 1 < 0 ∧ ¬ 999 < n 3 m 1) ∧ (n 3 m 4 = 1 → ∀ c k, c < 8 → k < Int32.toNatClampNeg (n 5 m c) → ¬ n 4 m (8 * c + k) < 0 ∧ ¬ 99 < n 4 m (8 * c + k))
/-- bounds that a network keeps -/
def r_K (n : ch_N) : Prop := (¬ n 0 0 3 < 0 ∧ ¬ 100000 < n 0 0 3 ∧ 0 < n 0 0 5 ∧ ¬ n 0 0 0 < 0 ∧ ¬ n 0 0 2 < 0) ∧ ∀ c, c < k_cc n → ¬ n 1 c 0 < 0 ∧ ¬ 999 < n 1 c 0 ∧ ¬ n 1 c 1 < 0 ∧ ¬ 999 < n 1 c 1 ∧ ¬ n 1 c 2 < 0 ∧ ¬ 99 < n 1 c 2 ∧ ¬ n 1 c 3 < 0 ∧ ¬ 50 < n 1 c 3
def r_N (n : ch_N) (w : Nat → Int32) : Prop :=
  (∀ j, j < 10 → w j = n 0 0 j) ∧ ((∀ t, t < 8 → w (10 + t) = n 7 0 t) ∧ r_K n) ∧ (∀ c f, c < k_cc n → f < 9 → w (18 + 9 * c + f) = n 1 c f) ∧ r_R n w ∧ (∀ m, m < k_mc n → r_M n w m) ∧ k_wf n
def r_ro (w : Nat → Int32) (a b : Int32) : Int32 := kq (fun r => decide (w (90 + 5 * r) = a ∧ w (90 + 5 * r + 1) = b)) (Int32.toNatClampNeg (w 1)) (Int32.toNatClampNeg (w 1))
theorem r_cc {n : ch_N} {w : Nat → Int32} (h : r_N n w) : k_cc n = Int32.toNatClampNeg (w 0) := by unfold k_cc; rw [h.1 0 (by decide)]
theorem r_mc {n : ch_N} {w : Nat → Int32} (h : r_N n w) : k_mc n = Int32.toNatClampNeg (w 2) := by unfold k_mc; rw [h.1 2 (by decide)]
theorem ix_c (c f : Nat) : 18 + 9 * nI c + nI f = nI (18 + 9 * c + f) := by rw [show (18 : Int32) = nI 18 from rfl, show (9 : Int32) = nI 9 from rfl, pk_mul, nI_add, nI_add]
theorem ix_r (c f : Nat) : 90 + 5 * nI c + nI f = nI (90 + 5 * c + f) := by rw [show (90 : Int32) = nI 90 from rfl, show (5 : Int32) = nI 5 from rfl, pk_mul, nI_add, nI_add]
theorem ix_m (c f : Nat) : 210 + 91 * nI c + nI f = nI (210 + 91 * c + f) := by rw [show (210 : Int32) = nI 210 from rfl, show (91 : Int32) = nI 91 from rfl, pk_mul, nI_add, nI_add]
theorem k_abs_sub (a b : Int32) : k_abs (a - b) = k_abs (b - a) := by
  have e : b - a = 0 - (a - b) := by
    apply Int32.toBitVec_inj.mp
    simp
  rw [e]
  generalize a - b = z
  unfold k_abs
  have hz : (0 - z).toInt = (-z.toInt).bmod (2 ^ 32) := by rw [Int32.toInt_sub]; simp
  have h1 := z.toInt_lt
  have h2 := z.le_toInt
  by_cases h : (0 : Int32) ≤ z
  · rw [if_pos h]
    have h0 : 0 ≤ z.toInt := by simpa using Int32.le_iff_toInt_le.mp h
    by_cases h3 : (0 : Int32) ≤ 0 - z
    · have h4 : (0 : Int) ≤ (0 - z).toInt := by simpa using Int32.le_iff_toInt_le.mp h3
      rw [hz] at h4
      have h5 : z.toInt = 0 := by
        have : (-z.toInt).bmod (2 ^ 32) = -z.toInt := Int.bmod_eq_of_le (by omega) (by omega)
        omega
      have h6 : z = 0 := Int32.toInt_inj.mp (by rw [h5]; decide)
      rw [h6]; decide
    · rw [if_neg h3]
      apply Int32.toBitVec_inj.mp
      simp
  · rw [if_neg h]
    by_cases h3 : (0 : Int32) ≤ 0 - z
    · rw [if_pos h3]
    · rw [if_neg h3]
      have h4 : z.toInt < 0 := by
        have := Int32.not_le.mp h
        simpa using Int32.lt_iff_toInt_lt.mp this
      have h7 : (0 - z).toInt < 0 := by
        have := Int32.not_le.mp h3
        simpa using Int32.lt_iff_toInt_lt.mp this
      rw [hz] at h7
      have h8 : z.toInt = -2 ^ 31 := by
        by_cases g : -2 ^ 31 < z.toInt
        · have : (-z.toInt).bmod (2 ^ 32) = -z.toInt := Int.bmod_eq_of_le (by omega) (by omega)
          omega
        · omega
      have h6 : z = -2147483648 := Int32.toInt_inj.mp (by rw [h8]; decide)
      rw [h6]; decide
theorem al_1302 : Int32.ofNat 1302 = 1302 := by decide
/-! THE REFERENCE, its questions: over a row that holds n they answer what the class's do -/
theorem r_f {n : ch_N} {w : Nat → Int32} (h : r_N n w) {m f : Nat} (hm : m < k_mc n) (hf : f < 7) : w (210 + 91 * m + f) = n 3 m f := (h.2.2.2.2.1 m hm).1 f hf
theorem r_8 {n : ch_N} {w : Nat → Int32} (h : r_N n w) {m : Nat} (hm : m < k_mc n) : w (210 + 91 * m + 8) = n 3 m 8 := (h.2.2.2.2.1 m hm).2.1
theorem r_cf {n : ch_N} {w : Nat → Int32} (h : r_N n w) {c f : Nat} (hc : c < k_cc n) (hf : f < 9) : w (18 + 9 * c + f) = n 1 c f := h.2.2.1 c f hc hf
theorem r_m12 {n : ch_N} {w : Nat → Int32} (h : r_N n w) {m : Nat} (hm : m < k_mc n) : m < 12 := Nat.lt_of_lt_of_le hm h.2.2.2.2.2.1
theorem r_c8 {n : ch_N} {w : Nat → Int32} (h : r_N n w) {c : Nat} (hc : c < k_cc n) : c < 8 := Nat.lt_of_lt_of_le hc h.2.2.2.2.2.2.1
theorem nI_nm1 {a : Nat} (h : a < 2 ^ 31) : ¬ nI a = -1 := fun z => by have := nI_pos h; rw [z] at this; exact this (by decide)
theorem k_lv_nn (n : ch_N) (c : Nat) (x y : Int32) : (-1 : Int32) < k_lv n c x y := by
  unfold k_lv k_max
  split
  · rename_i h
    exact Int32.lt_trans (by decide) h
  · decide
theorem k_ld_inv (n : ch_N) (x y : Int32) : ∀ N, ((k_ld n x y N).1 = -1 ∧ (k_ld n x y N).2 = -1 ∧ N = 0) ∨ ∃ b, b < N ∧ (k_ld n x y N).1 = nI b ∧ (k_ld n x y N).2 = k_lv n b x y
  | 0 => Or.inl ⟨rfl, rfl, rfl⟩
  | N + 1 => by
    have ih := k_ld_inv n x y N
    have e : k_ld n x y (N + 1) = if (k_ld n x y N).2 < k_lv n N x y then (nI N, k_lv n N x y) else k_ld n x y N := rfl
    by_cases h : (k_ld n x y N).2 < k_lv n N x y
    · rw [if_pos h] at e
      exact Or.inr ⟨N, Nat.lt_succ_self N, by rw [e], by rw [e]⟩
    · rw [if_neg h] at e
      rcases ih with ⟨-, h2, -⟩ | ⟨b, hb, h1, h2⟩
      · exact absurd (by rw [h2]; exact k_lv_nn n N x y) h
      · exact Or.inr ⟨b, Nat.lt_succ_of_lt hb, by rw [e, h1], by rw [e, h2]⟩
theorem k_cb_self (n : ch_N) (i : Nat) : k_cb n i i = false := by
  unfold k_cb
  rw [if_pos rfl, if_pos rfl]
  exact decide_eq_false (fun z => Int32.lt_irrefl z)
/-! THE REFERENCE: reports, averages, relations -/
theorem r_bad {n : ch_N} {w : Nat → Int32} (h : r_N n w) {m : Nat} (hm : m < k_mc n) (ht : n 3 m 4 = 1) : w (210 + 91 * m + 7) = n 3 m 7 := ((h.2.2.2.2.1 m hm).2.2.1 ht).1
theorem r_br {n : ch_N} {w : Nat → Int32} (h : r_N n w) {m c : Nat} (hm : m < k_mc n) (ht : n 3 m 4 = 1) (hc : c < 8) : w (210 + 91 * m + (11 + c)) = n 6 m c := (((h.2.2.2.2.1 m hm).2.2.1 ht).2 c hc).1
theorem r_ct {n : ch_N} {w : Nat → Int32} (h : r_N n w) {m c : Nat} (hm : m < k_mc n) (ht : n 3 m 4 = 1) (hc : c < 8) : w (210 + 91 * m + (19 + c)) = n 5 m c := (((h.2.2.2.2.1 m hm).2.2.1 ht).2 c hc).2.1
theorem r_lv {n : ch_N} {w : Nat → Int32} (h : r_N n w) {m c k : Nat} (hm : m < k_mc n) (ht : n 3 m 4 = 1) (hc : c < 8) (hk : k < Int32.toNatClampNeg (n 5 m c)) : w (210 + 91 * m + (27 + 8 * c + k)) = n 4 m (8 * c + k) := (((h.2.2.2.2.1 m hm).2.2.1 ht).2 c hc).2.2 k hk
theorem r_sv {n : ch_N} {w : Nat → Int32} (h : r_N n w) {m : Nat} (hm : m < k_mc n) (ht : n 3 m 4 = 1) : ∃ s, s < k_cc n ∧ n 3 m 5 = nI s := (h.2.2.2.2.1 m hm).2.2.2.2.2.1 ht
theorem k_rep_c {n : ch_N} {i c : Nat} (hc : c < 8) : k_rep n i (nI c) = n 5 i c := by
  unfold k_rep
  rw [if_neg (nI_pos (by omega)), if_pos (show nI c < 8 from nI_lt (b := 8) hc (by decide)), nI_clamp (by omega)]
theorem k_isb_c {n : ch_N} {i c : Nat} {t : Int32} (hc : c < 8) : k_isb n i (nI c) t = !decide (n 6 i c < t) := by
  unfold k_isb
  rw [if_neg (nI_pos (by omega)), if_pos (show nI c < 8 from nI_lt (b := 8) hc (by decide)), nI_clamp (by omega)]
theorem r_c58 {n : ch_N} {w : Nat → Int32} (h : r_N n w) {m c : Nat} (hm : m < 13) (hc : c < 8) : ¬ n 5 m c < 0 ∧ Int32.toNatClampNeg (n 5 m c) ≤ 8 := ⟨(h.2.2.2.2.2.2.2.2.2.2 m c hm hc).1, (h.2.2.2.2.2.2.2.2.2.2 m c hm hc).2.1⟩
theorem kq_spec (p : Nat → Bool) (N : Nat) : ∀ j, j ≤ N → (kq p N j = -1 ∧ ∀ i, N - j ≤ i → i < N → ¬ p i = true) ∨ ∃ r, N - j ≤ r ∧ r < N ∧ p r = true ∧ kq p N j = nI r ∧ ∀ i, N - j ≤ i → i < r → ¬ p i = true
  | 0, _ => Or.inl ⟨rfl, fun i h1 h2 => by omega⟩
  | j + 1, hj => by
    by_cases hp : p (N - (j + 1)) = true
    · exact Or.inr ⟨N - (j + 1), Nat.le_refl _, by omega, hp, by rw [kq, if_pos hp], fun i h1 h2 => by omega⟩
    · have e : kq p N (j + 1) = kq p N j := by rw [kq, if_neg hp]
      rcases kq_spec p N j (by omega) with ⟨h1, h2⟩ | ⟨r, h1, h2, h3, h4, h5⟩
      · refine Or.inl ⟨by rw [e, h1], fun i g1 g2 => ?_⟩
        by_cases z : i = N - (j + 1)
        · rw [z]; exact hp
        · exact h2 i (by omega) g2
      · refine Or.inr ⟨r, by omega, h2, h3, by rw [e, h4], fun i g1 g2 => ?_⟩
        by_cases z : i = N - (j + 1)
        · rw [z]; exact hp
        · exact h5 i (by omega) g2
/-- a relation of the reference's list: none, or the one of these two cells -/
theorem r_find {n : ch_N} {w : Nat → Int32} (h : r_R n w) {a b : Nat} (ha : a < 8) (hb : b < 8) (hc8 : k_cc n ≤ 8) : (r_ro w (nI a) (nI b) = -1 ∧ n 2 (8 * a + b) 0 = 0) ∨
    ∃ r, r < Int32.toNatClampNeg (w 1) ∧ r < 24 ∧ r_ro w (nI a) (nI b) = nI r ∧ ¬ n 2 (8 * a + b) 0 = 0 ∧ n 2 (8 * a + b) 0 = 1 ∧ w (90 + 5 * r) = nI a ∧ w (90 + 5 * r + 1) = nI b ∧ w (90 + 5 * r + 2) = n 2 (8 * a + b) 1 ∧ w (90 + 5 * r + 3) = n 2 (8 * a + b) 2 ∧ w (90 + 5 * r + 4) = n 2 (8 * a + b) 3 := by
  obtain ⟨⟨h0, h24⟩, h1, h2, h3, h4⟩ := h
  rcases kq_spec (fun r => decide (w (90 + 5 * r) = nI a ∧ w (90 + 5 * r + 1) = nI b)) (Int32.toNatClampNeg (w 1)) (Int32.toNatClampNeg (w 1)) (Nat.le_refl _) with ⟨e, g⟩ | ⟨r, -, hr, hp, e, -⟩
  · refine Or.inl ⟨e, Classical.byContradiction fun hz => ?_⟩
    obtain ⟨r, hr, ea, eb⟩ := h3 a b ha hb hz
    exact g r (by omega) hr (decide_eq_true ⟨ea, eb⟩)
  · have hp := of_decide_eq_true hp
    obtain ⟨a', b', ha', hb', ea, eb, e0, e1, e2, e3⟩ := h1 r hr
    have za : a' = a := (nI_eq (by omega) (by omega)).mp (ea.symm.trans hp.1)
    have zb : b' = b := (nI_eq (by omega) (by omega)).mp (eb.symm.trans hp.2)
    subst za zb
    exact Or.inr ⟨r, hr, by omega, e, by rw [e0]; decide, e0, ea, eb, e1, e2, e3⟩
theorem r_rx {a b : Nat} (ha : a < 8) (hb : b < 8) : k_rx (nI a) (nI b) = 8 * a + b := k_rx_in ha hb
theorem r_24 {n : ch_N} {w : Nat → Int32} (h : r_N n w) : Int32.toNatClampNeg (w 1) ≤ 24 := h.2.2.2.1.1.2
theorem r_nb {n : ch_N} {w : Nat → Int32} (h : r_N n w) {a b : Nat} (ha : a < 8) (hb : b < 8) : r_ro w (nI a) (nI b) = -1 ↔ n 2 (8 * a + b) 0 = 0 := by
  rcases r_find h.2.2.2.1 ha hb h.2.2.2.2.2.2.1 with ⟨e1, e2⟩ | ⟨r, -, hr, e1, e2, -⟩
  · exact ⟨fun _ => e2, fun _ => e1⟩
  · exact ⟨fun z => absurd (e1.symm.trans z) (nI_nm1 (by omega)), fun z => absurd z e2⟩
theorem k_rc_inv (n : ch_N) (s x y : Int32) : ∀ N, ((k_rc n s x y N).1 = -1 ∧ (k_rc n s x y N).2 = -1) ∨ ∃ b, b < N ∧ (k_rc n s x y N).1 = nI b ∧ (k_rc n s x y N).2 = k_lv n b x y
  | 0 => Or.inl ⟨rfl, rfl⟩
  | N + 1 => by
    have ih := k_rc_inv n s x y N
    have e : k_rc n s x y (N + 1) = if ¬ n 2 (k_rx s (nI N)) 0 = 0 ∧ (k_rc n s x y N).2 < k_lv n N x y ∧ k_use n (nI N) x y = true ∧ k_free n (nI N) = true then (nI N, k_lv n N x y) else k_rc n s x y N := rfl
    by_cases h : ¬ n 2 (k_rx s (nI N)) 0 = 0 ∧ (k_rc n s x y N).2 < k_lv n N x y ∧ k_use n (nI N) x y = true ∧ k_free n (nI N) = true
    · rw [if_pos h] at e
      exact Or.inr ⟨N, Nat.lt_succ_self N, by rw [e], by rw [e]⟩
    · rw [if_neg h] at e
      rcases ih with ⟨h1, h2⟩ | ⟨b, hb, h1, h2⟩
      · exact Or.inl ⟨by rw [e, h1], by rw [e, h2]⟩
      · exact Or.inr ⟨b, Nat.lt_succ_of_lt hb, by rw [e, h1], by rw [e, h2]⟩
/-! THE REFERENCE'S RANKING against the class's -/
def r_pq (p : ch_N) (a b : Nat → Int32) (x : Int32) : ch_N := nw (na (na p 28 0 a) 29 0 b) 22 0 10 x
theorem r_pq_23 (p : ch_N) (a b : Nat → Int32) (x : Int32) : r_pq p a b x 23 = p 23 := by unfold r_pq; rw [nw_k (by decide), na_k (by decide), na_k (by decide)]
theorem r_pq_a (p : ch_N) (a b : Nat → Int32) (x : Int32) : r_pq p a b x 28 0 = a := by funext j; unfold r_pq; simp [nw_at, na_at]
theorem r_pq_b (p : ch_N) (a b : Nat → Int32) (x : Int32) : r_pq p a b x 29 0 = b := by funext j; unfold r_pq; simp [nw_at, na_at]
theorem r_pq_x (p : ch_N) (a b : Nat → Int32) (x : Int32) : r_pq p a b x 22 0 10 = x := by unfold r_pq; simp [nw_at, na_at]
theorem r_pq_28 (p : ch_N) (a b : Nat → Int32) (x : Int32) (j : Nat) (v : Int32) : nw (r_pq p a b x) 28 0 j v = r_pq p (up a j v) b x := by
  funext u i k
  unfold r_pq up
  simp only [nw_at, na_at]
  by_cases h1 : u = 28 ∧ i = 0
  · obtain ⟨rfl, rfl⟩ := h1
    by_cases h2 : k = j <;> simp [h2]
  · have h2 : ¬ (u = 28 ∧ i = 0 ∧ k = j) := fun z => h1 ⟨z.1, z.2.1⟩
    simp only [h1, h2, if_false]
theorem r_pq_29 (p : ch_N) (a b : Nat → Int32) (x : Int32) (j : Nat) (v : Int32) : nw (r_pq p a b x) 29 0 j v = r_pq p a (up b j v) x := by
  funext u i k
  unfold r_pq up
  simp only [nw_at, na_at]
  by_cases h1 : u = 29 ∧ i = 0
  · obtain ⟨rfl, rfl⟩ := h1
    by_cases h2 : k = j <;> simp [h2]
  · have h2 : ¬ (u = 29 ∧ i = 0 ∧ k = j) := fun z => h1 ⟨z.1, z.2.1⟩
    simp only [h1, h2, if_false]
theorem r_pq_10 (p : ch_N) (a b : Nat → Int32) (x y : Int32) : nw (r_pq p a b x) 22 0 10 y = r_pq p a b y := nw_nw _ _ _ _ _ _
theorem r_pq_id (p : ch_N) : r_pq p (p 28 0) (p 29 0) (p 22 0 10) = p := by
  funext u i k
  unfold r_pq
  simp only [nw_at, na_at]
  by_cases h1 : u = 22 ∧ i = 0 ∧ k = 10
  · obtain ⟨rfl, rfl, rfl⟩ := h1; simp
  · rw [if_neg h1]
    by_cases h2 : u = 29 ∧ i = 0
    · obtain ⟨rfl, rfl⟩ := h2; simp
    · rw [if_neg h2]
      by_cases h3 : u = 28 ∧ i = 0
      · obtain ⟨rfl, rfl⟩ := h3; simp
      · rw [if_neg h3]
/-- N cells ranked: the same cells in the same order -/
def r_Q (q : ch_N) (a b : Nat → Int32) (x : Int32) (N : Nat) : Prop := ∃ t, t ≤ N ∧ q 17 0 0 = nI t ∧ x = nI t ∧ ∀ j, j < t → a j = q 18 0 j ∧ ∃ c, c < N ∧ q 18 0 j = nI c ∧ b c = q 19 0 j
theorem r_Q_skip {q : ch_N} {a b : Nat → Int32} {x v : Int32} {N : Nat} (h : r_Q q a b x N) : r_Q q a (up b N v) x (N + 1) := by
  obtain ⟨t, h1, h2, h3, h4⟩ := h
  refine ⟨t, by omega, h2, h3, fun j hj => ?_⟩
  obtain ⟨g1, c, g2, g3, g4⟩ := h4 j hj
  exact ⟨g1, c, by omega, g3, by rw [up_n (by omega)]; exact g4⟩
theorem r_Q_ins {q : ch_N} {a b : Nat → Int32} {x v : Int32} {N t : Nat} (hN : N < 8) (h1 : t ≤ N) (h2 : q 17 0 0 = nI t) (h4 : ∀ j, j < t → a j = q 18 0 j ∧ ∃ c, c < N ∧ q 18 0 j = nI c ∧ b c = q 19 0 j) :
    r_Q (k_ins q (nI N) v) (up (k_sh a (k_sp (q 19 0) v t) t) (k_sp (q 19 0) v t) (nI N)) (up b N v) (nI t + 1) (N + 1) := by
  have hP := k_sp_le (q 19 0) v t
  have ect : Int32.toNatClampNeg (q 17 0 0) = t := by rw [h2]; exact nI_clamp (by omega)
  have e17 : k_ins q (nI N) v 17 0 0 = nI t + 1 := by
    unfold k_ins
    rw [if_pos (by rw [h2]; exact nI_lt (b := 8) (by omega) (by decide)), nw_at, if_pos ⟨rfl, rfl, rfl⟩, h2]
  have e18 : k_ins q (nI N) v 18 0 = up (k_sh (q 18 0) (k_sp (q 19 0) v t) t) (k_sp (q 19 0) v t) (nI N) := by
    funext j
    unfold k_ins up
    rw [if_pos (by rw [h2]; exact nI_lt (b := 8) (by omega) (by decide)), ect]
    simp [nw_at, na_at]
  have e19 : k_ins q (nI N) v 19 0 = up (k_sh (q 19 0) (k_sp (q 19 0) v t) t) (k_sp (q 19 0) v t) v := by
    funext j
    unfold k_ins up
    rw [if_pos (by rw [h2]; exact nI_lt (b := 8) (by omega) (by decide)), ect]
    simp [nw_at, na_at]
  generalize k_sp (q 19 0) v t = P at *
  refine ⟨t + 1, by omega, by rw [e17, nI_1], nI_1 t, fun j hj => ?_⟩
  rw [e18, e19]
  by_cases hjP : j = P
  · subst hjP
    exact ⟨by rw [up_s, up_s], N, by omega, by rw [up_s], by rw [up_s, up_s]⟩
  · rw [up_n hjP, up_n hjP, up_n hjP]
    unfold k_sh
    by_cases hs : P < j ∧ j ≤ t
    · rw [if_pos hs, if_pos hs, if_pos hs]
      obtain ⟨g1, c, g2, g3, g4⟩ := h4 (j - 1) (by omega)
      exact ⟨g1, c, by omega, g3, by rw [up_n (by omega)]; exact g4⟩
    · rw [if_neg hs, if_neg hs, if_neg hs]
      obtain ⟨g1, c, g2, g3, g4⟩ := h4 j (by omega)
      exact ⟨g1, c, by omega, g3, by rw [up_n (by omega)]; exact g4⟩
theorem k_sum_b {n : ch_N} {m a : Nat} : ∀ q, q ≤ 8 → (∀ k, k < q → ¬ n 4 m (a + k) < 0 ∧ ¬ 99 < n 4 m (a + k)) → ∃ z, z ≤ 99 * q ∧ k_sum n m a q = nI z
  | 0, _, _ => ⟨0, Nat.le_refl _, rfl⟩
  | q + 1, hq, h => by
    obtain ⟨z, hz, e⟩ := k_sum_b q (by omega) (fun k hk => h k (by omega))
    obtain ⟨h1, h2⟩ := h q (by omega)
    obtain ⟨j, hj, ej⟩ := nI_of2 (M := 99) (n := 99) (by decide) h1 (Int32.not_lt.mp h2)
    refine ⟨z + j, by omega, ?_⟩
    show k_sum n m a q + n 4 m (a + q) = _
    rw [e, ej, nI_add]
theorem r_avg {n : ch_N} {w : Nat → Int32} (h : r_N n w) {m c : Nat} (hm : m < k_mc n) (ht : n 3 m 4 = 1) (hc : c < 8) : (n 5 m c = 0 ∧ k_avg n m (nI c) = -1) ∨ (0 < n 5 m c ∧ ¬ n 5 m c = 0 ∧ ¬ k_avg n m (nI c) = -1) := by
  have h58 := r_c58 h (show m < 13 by have := r_m12 h hm; omega) hc
  obtain ⟨q, hq, eq⟩ := nI_of h58.1
  have hq8 : q ≤ 8 := by have := h58.2; rw [eq, nI_clamp hq] at this; exact this
  rcases Nat.eq_zero_or_pos q with z | z
  · subst z
    refine Or.inl ⟨eq, ?_⟩
    unfold k_avg
    rw [k_rep_c hc, eq, if_neg (by decide)]
  · have hp : 0 < n 5 m c := by rw [eq]; exact nI_lt (a := 0) z (by omega)
    refine Or.inr ⟨hp, by rw [eq]; exact nI_ne0 z (by omega), ?_⟩
    obtain ⟨s, hs, es⟩ := k_sum_b (n := n) (m := m) (a := 8 * c) q hq8 (fun k hk => (h.2.2.2.2.1 m hm).2.2.2.2.2.2.2.2.2.2.2.2.2 ht c k hc (by rw [eq, nI_clamp (by omega)]; exact hk))
    unfold k_avg
    rw [k_rep_c hc, if_pos hp, eq, nI_clamp (show q < 2 ^ 31 by omega), nI_clamp (show c < 2 ^ 31 by omega), es, pk_div (by omega) z (by omega)]
    exact nI_nm1 (Nat.lt_of_le_of_lt (Nat.div_le_self _ _) (by omega))
def r_RK (n q : ch_N) (m : Nat) (S : ch_S) (μ : ch_M) : Option Value → ch_S → ch_M → Prop := fun v' S' μ' => v' = none ∧ S' = S ∧ ∃ a b x, μ' = up μ 16 (r_pq (μ 16) a b x) ∧ r_Q (k_rank n q m) a b x (k_cc n)
/-! THE REFERENCE, what writes: a row w' in place of w -/
def r_wr (μ : ch_M) (w : Nat → Int32) : ch_M := up μ 16 (na (μ 16) 23 0 w)
theorem r_wr_at (μ : ch_M) (w : Nat → Int32) : r_wr μ w 16 23 0 = w := by unfold r_wr; rw [up_s]; funext j; rw [na_at, if_pos ⟨rfl, rfl⟩]
theorem r_wr_put (μ : ch_M) (w : Nat → Int32) (j : Nat) (v : Int32) : up (r_wr μ w) 16 (nw (r_wr μ w 16) 23 0 j v) = r_wr μ (up w j v) := by unfold r_wr; rw [up_s, na_nw, up_up]
theorem r_wr_id (μ : ch_M) : r_wr μ (μ 16 23 0) = μ := by unfold r_wr; rw [na_id, up_id]
theorem r_wr_wr (μ : ch_M) (w v : Nat → Int32) : r_wr (r_wr μ w) v = r_wr μ v := by unfold r_wr; rw [up_s, na_na, up_up]
def ch_FX (v : Option Value) (S : ch_S) (P : ch_M → Prop) : Option Value → ch_S → ch_M → Prop := fun v' S' μ' => v' = v ∧ S' = S ∧ P μ'
section Rel
variable {X : ch_X} {E : ch_E} {own : String} {cc : ByteArray} {nL : Nat} {S : ch_S} {μ : ch_M} {kc ks pc : Nat} {L : List (Nat × Value)} {st : List Value}
theorem ca_vX (h : ch_H X E own cc nL) {D MC MS idx d n maxL : Nat} {y : MethodName} {bytes : ByteArray} {ret : Option FieldType} {k kd i ci : Nat} {q : vw_C} {stk As : List Value} {v : Option Value} {P : ch_M → Prop} (hG : ch_G X D MC MS) (hL : ch_LV own idx y bytes maxL ret n) (hM : ch_C E (x_l X) y bytes maxL ret d 0 0 S μ (.ref (S.1 k kd i) :: As) (ch_FX v S P)) (hc : ch_cl[ci]? = some q) (hq : q.1 = y.cls) (hk : ch_kd kd = .inl ci) (hv : S.2.1 k kd i) (hstk : stk = As.reverse ++ .ref (S.1 k kd i) :: st)
    (hn : As.length = n) (hD : Nat.ble (d + 1) D = true) (hm : Nat.ble maxL 22 = true) (hkc : kc ≤ MC ∧ ks ≤ MS) (hst : Nat.ble (st.map fun v => v.category).sum 8 = true) (hd : decode cc pc = .ok (.invokevirtual idx, 3))
    (kk : ∀ μ', P μ' → ch_W X E nL S μ' kc ks (pc + 3) L (v.toList ++ st)) : ch_W X E nL S μ kc ks pc L stk :=
  ca_callV h hG hL hM hc hq hk hv hstk hn hD hm hkc (Nat.le_of_ble_eq_true hst) hd (fun v' S' m' hp => by obtain ⟨rfl, rfl, hp⟩ := hp; exact kk m' hp)
theorem ca_vXv (h : ch_H X E own cc nL) {D MC MS idx d n maxL : Nat} {y : MethodName} {bytes : ByteArray} {ret : Option FieldType} {k kd i ci : Nat} {q : vw_C} {stk As : List Value} {P : ch_M → Prop} (hG : ch_G X D MC MS) (hL : ch_LV own idx y bytes maxL ret n) (hM : ch_C E (x_l X) y bytes maxL ret d 0 0 S μ (.ref (S.1 k kd i) :: As) (ch_FX none S P)) (hc : ch_cl[ci]? = some q) (hq : q.1 = y.cls) (hk : ch_kd kd = .inl ci) (hv : S.2.1 k kd i) (hstk : stk = As.reverse ++ .ref (S.1 k kd i) :: st)
    (hn : As.length = n) (hD : Nat.ble (d + 1) D = true) (hm : Nat.ble maxL 22 = true) (hkc : kc ≤ MC ∧ ks ≤ MS) (hst : Nat.ble (st.map fun v => v.category).sum 8 = true) (hd : decode cc pc = .ok (.invokevirtual idx, 3))
    (kk : ∀ μ', P μ' → ch_W X E nL S μ' kc ks (pc + 3) L st) : ch_W X E nL S μ kc ks pc L stk := ca_vX h hG hL hM hc hq hk hv hstk hn hD hm hkc hst hd kk
theorem ca_vXi (h : ch_H X E own cc nL) {D MC MS idx d n maxL : Nat} {y : MethodName} {bytes : ByteArray} {ret : Option FieldType} {k kd i ci : Nat} {q : vw_C} {stk As : List Value} {r : Int32} {P : ch_M → Prop} (hG : ch_G X D MC MS) (hL : ch_LV own idx y bytes maxL ret n) (hM : ch_C E (x_l X) y bytes maxL ret d 0 0 S μ (.ref (S.1 k kd i) :: As) (ch_FX (some (.int r)) S P)) (hc : ch_cl[ci]? = some q) (hq : q.1 = y.cls) (hk : ch_kd kd = .inl ci) (hv : S.2.1 k kd i) (hstk : stk = As.reverse ++ .ref (S.1 k kd i) :: st)
    (hn : As.length = n) (hD : Nat.ble (d + 1) D = true) (hm : Nat.ble maxL 22 = true) (hkc : kc ≤ MC ∧ ks ≤ MS) (hst : Nat.ble (st.map fun v => v.category).sum 8 = true) (hd : decode cc pc = .ok (.invokevirtual idx, 3))
    (kk : ∀ μ', P μ' → ch_W X E nL S μ' kc ks (pc + 3) L (.int r :: st)) : ch_W X E nL S μ kc ks pc L stk := ca_vX h hG hL hM hc hq hk hv hstk hn hD hm hkc hst hd kk
end Rel
theorem r_M_congr {n n' : ch_N} {w w' : Nat → Int32} {i : Nat} (h : r_M n w i) (hw : ∀ f, f < 91 → w' (210 + 91 * i + f) = w (210 + 91 * i + f)) (h3 : n' 3 i = n 3 i) (h4 : n' 4 i = n 4 i) (h5 : n' 5 i = n 5 i) (h6 : n' 6 i = n 6 i) (h0 : k_cc n' = k_cc n) (h2 : ∀ j, n' 2 j 0 = n 2 j 0) (hct : ∀ c, c < 8 → Int32.toNatClampNeg (n 5 i c) ≤ 8) : r_M n' w' i := by
  obtain ⟨a1, a2, a3, a4, a5, a6, a7, a8, a9, a10, a11, a12, a13, a14⟩ := h
  unfold r_M
  rw [h3, h4, h5, h6, h0]
  refine ⟨fun f hf => by rw [hw f (by omega)]; exact a1 f hf, by rw [hw 8 (by omega)]; exact a2, fun ht => ⟨by rw [hw 7 (by omega)]; exact (a3 ht).1, fun c hc => ?_⟩, fun hr => ⟨by rw [hw 10 (by omega)]; exact (a4 hr).1, by rw [hw 9 (by omega)]; exact (a4 hr).2⟩, a5, a6, a7, a8, a9, a10, a11, fun ht c hc hr => by rw [h2]; exact a12 ht c hc hr, a13, a14⟩
  obtain ⟨b1, b2, b3⟩ := (a3 ht).2 c hc
  refine ⟨by rw [hw (11 + c) (by omega)]; exact b1, by rw [hw (19 + c) (by omega)]; exact b2, fun k hk => ?_⟩
  have := hct c hc
  rw [hw (27 + 8 * c + k) (by omega)]
  exact b3 k hk
theorem r_R_congr {n n' : ch_N} {w w' : Nat → Int32} (h : r_R n w) (hw : ∀ j, j < 210 → w' j = w j) (h2 : n' 2 = n 2) (h0 : k_cc n' = k_cc n) : r_R n' w' := by
  obtain ⟨⟨b1, b2⟩, b3, b4, b5, b6⟩ := h
  unfold r_R
  rw [h2, h0, hw 1 (by omega)]
  refine ⟨⟨b1, b2⟩, fun r hr => ?_, fun r t hr ht e1 e2 => ?_, fun a b ha hb hz => ?_, b6⟩
  · obtain ⟨a, b, g⟩ := b3 r hr
    refine ⟨a, b, ?_⟩
    rw [hw _ (by omega), hw _ (by omega), hw _ (by omega), hw _ (by omega), hw _ (by omega)]
    exact g
  · rw [hw _ (by omega), hw (90 + 5 * t) (by omega)] at e1
    rw [hw _ (by omega), hw (90 + 5 * t + 1) (by omega)] at e2
    exact b4 r t hr ht e1 e2
  · obtain ⟨r, hr, g1, g2⟩ := b5 a b ha hb hz
    exact ⟨r, hr, by rw [hw _ (by omega)]; exact g1, by rw [hw _ (by omega)]; exact g2⟩
/-- one mobile changed on both sides -/
theorem r_N_mob {n n' : ch_N} {w w' : Nat → Int32} {m : Nat} (h : r_N n w) (hm : m < k_mc n) (hk : ∀ kd, kd ≠ 3 → kd ≠ 4 → kd ≠ 5 → kd ≠ 6 → n' kd = n kd) (hn : ∀ kd i, i ≠ m → n' kd i = n kd i)
    (hw : ∀ j, j < 210 + 91 * m ∨ 210 + 91 * m + 91 ≤ j → w' j = w j) (hM : r_M n' w' m) (hwf : k_wf n') : r_N n' w' := by
  have h0 : n' 0 = n 0 := hk 0 (by decide) (by decide) (by decide) (by decide)
  have h1 : n' 1 = n 1 := hk 1 (by decide) (by decide) (by decide) (by decide)
  have h2 : n' 2 = n 2 := hk 2 (by decide) (by decide) (by decide) (by decide)
  have h7 : n' 7 = n 7 := hk 7 (by decide) (by decide) (by decide) (by decide)
  have ec : k_cc n' = k_cc n := by unfold k_cc; rw [h0]
  have em : k_mc n' = k_mc n := by unfold k_mc; rw [h0]
  have h58 : ∀ i c, i < 13 → c < 8 → Int32.toNatClampNeg (n 5 i c) ≤ 8 := fun i c hi hc => (r_c58 h hi hc).2
  have hcc8 := h.2.2.2.2.2.2.1
  have hmm12 := h.2.2.2.2.2.1
  obtain ⟨a1, ⟨a2, aK⟩, a3, aR, aM, -⟩ := h
  refine ⟨fun j hj => by rw [hw j (by omega), h0]; exact a1 j hj, ⟨fun t ht => by rw [hw _ (by omega), h7]; exact a2 t ht, ?_⟩, fun c f hc hf => by rw [hw _ (by rw [ec] at hc; omega), h1]; exact a3 c f (by rw [ec] at hc; exact hc) hf, ?_, fun i hi => ?_, hwf⟩
  · unfold r_K at *
    rw [h0, h1, ec]
    exact aK
  · exact r_R_congr aR (fun j hj => hw j (by omega)) h2 ec
  · rw [em] at hi
    by_cases e : i = m
    · rw [e]; exact hM
    · exact r_M_congr (aM i hi) (fun f hf => hw _ (by omega)) (hn 3 i e) (hn 4 i e) (hn 5 i e) (hn 6 i e) ec (fun j => by rw [h2]) (fun c hc => h58 i c (by omega) hc)
/-- a total counted -/
theorem r_N_tot {n : ch_N} {w : Nat → Int32} {t : Nat} (h : r_N n w) (ht : t < 8) : r_N (k_cnt n t) (up w (10 + t) (w (10 + t) + 1)) := by
  have h0 : (k_cnt n t) 0 = n 0 := k_cnt_0 n t
  have hk : ∀ kd, kd ≠ 7 → (k_cnt n t) kd = n kd := fun kd hd => nw_k hd
  have ec : k_cc (k_cnt n t) = k_cc n := by unfold k_cc; rw [h0]
  have em : k_mc (k_cnt n t) = k_mc n := by unfold k_mc; rw [h0]
  have h58 : ∀ i c, i < 13 → c < 8 → Int32.toNatClampNeg (n 5 i c) ≤ 8 := fun i c hi hc => (r_c58 h hi hc).2
  have hcc8 := h.2.2.2.2.2.2.1
  have hmm12 := h.2.2.2.2.2.1
  have hwf := k_cnt_wf h.2.2.2.2.2 t
  obtain ⟨a1, ⟨a2, aK⟩, a3, aR, aM, -⟩ := h
  refine ⟨fun j hj => by rw [up_n (by omega), h0]; exact a1 j hj, ⟨fun u hu => ?_, ?_⟩, fun c f hc hf => by rw [up_n (by omega), hk 1 (by decide)]; exact a3 c f (by rw [ec] at hc; exact hc) hf, ?_, fun i hi => ?_, hwf⟩
  · unfold k_cnt
    rw [nw_at]
    by_cases e : u = t
    · subst e
      rw [up_s, if_pos ⟨rfl, rfl, rfl⟩, a2 u hu]
    · rw [up_n (by omega), if_neg (fun z => e z.2.2)]
      exact a2 u hu
  · unfold r_K at *
    rw [h0, hk 1 (by decide), ec]
    exact aK
  · obtain ⟨⟨b1, b2⟩, b3, b4, b5, b6⟩ := aR
    unfold r_R
    rw [hk 2 (by decide), ec, up_n (show (1 : Nat) ≠ 10 + t by omega)]
    refine ⟨⟨b1, b2⟩, fun r hr => ?_, fun r u hr hu e1 e2 => ?_, fun a b ha hb hz => ?_, b6⟩
    · obtain ⟨a, b, g⟩ := b3 r hr
      refine ⟨a, b, ?_⟩
      rw [up_n (by omega), up_n (by omega), up_n (by omega), up_n (by omega), up_n (by omega)]
      exact g
    · rw [up_n (by omega), up_n (by omega)] at e1 e2
      exact b4 r u hr hu e1 e2
    · obtain ⟨r, hr, g1, g2⟩ := b5 a b ha hb hz
      exact ⟨r, hr, by rw [up_n (by omega)]; exact g1, by rw [up_n (by omega)]; exact g2⟩
  · rw [em] at hi
    exact r_M_congr (aM i hi) (fun f hf => up_n (by omega)) (by rw [hk 3 (by decide)]) (by rw [hk 4 (by decide)]) (by rw [hk 5 (by decide)]) (by rw [hk 6 (by decide)]) ec (fun j => by rw [hk 2 (by decide)]) (fun c hc => h58 i c (by omega) hc)

/-! THE REFERENCE'S WRITERS -/
def r_wd (w : Nat → Int32) (m : Nat) : Nat → Int32 := up w (210 + 91 * m + 8) (-1)
def r_end (w : Nat → Int32) (m : Nat) : Nat → Int32 := r_wd (up (up (up w (210 + 91 * m + 4) 0) (210 + 91 * m + 5) (-1)) (210 + 91 * m + 6) 0) m
def r_rq (w : Nat → Int32) (m : Nat) (c k t : Int32) : Nat → Int32 := up (up (up w (210 + 91 * m + 8) c) (210 + 91 * m + 9) k) (210 + 91 * m + 10) t
def r_bgL (w : Nat → Int32) (m : Nat) : Nat → Nat → Int32 := fun j => kf (fun c w => up (up w (210 + 91 * m + (19 + c)) 0) (210 + 91 * m + (11 + c)) (-1)) j w
def r_beg (w : Nat → Int32) (m : Nat) (c : Int32) : Nat → Int32 := r_bgL (r_wd (up (up (up w (210 + 91 * m + 4) 1) (210 + 91 * m + 5) c) (210 + 91 * m + 7) 0) m) m 8
theorem r_bgL_at (w : Nat → Int32) (m : Nat) : ∀ j i, j ≤ 8 → r_bgL w m j i = if 210 + 91 * m + 19 ≤ i ∧ i < 210 + 91 * m + 19 + j then 0 else if 210 + 91 * m + 11 ≤ i ∧ i < 210 + 91 * m + 11 + j then -1 else w i
  | 0, i, _ => by rw [if_neg (by omega), if_neg (by omega)]; rfl
  | j + 1, i, hj => by
    have e : r_bgL w m (j + 1) = up (up (r_bgL w m j) (210 + 91 * m + (19 + j)) 0) (210 + 91 * m + (11 + j)) (-1) := rfl
    rw [e]
    by_cases h1 : i = 210 + 91 * m + (11 + j)
    · rw [h1, up_s, if_neg (by omega), if_pos (by omega)]
    · rw [up_n h1]
      by_cases h2 : i = 210 + 91 * m + (19 + j)
      · rw [h2, up_s, if_pos (by omega)]
      · rw [up_n h2, r_bgL_at w m j i (by omega)]
        by_cases h3 : 210 + 91 * m + 19 ≤ i ∧ i < 210 + 91 * m + 19 + j
        · rw [if_pos h3, if_pos (by omega)]
        · rw [if_neg h3, if_neg (show ¬ (210 + 91 * m + 19 ≤ i ∧ i < 210 + 91 * m + 19 + (j + 1)) by omega)]
          by_cases h4 : 210 + 91 * m + 11 ≤ i ∧ i < 210 + 91 * m + 11 + j
          · rw [if_pos h4, if_pos (by omega)]
          · rw [if_neg h4, if_neg (by omega)]
theorem r_N_end {n : ch_N} {w : Nat → Int32} {m : Nat} (h : r_N n w) (hm : m < k_mc n) : r_N (k_idle n m) (r_end w m) := by
  obtain ⟨a1, a2, a3, a4, a5, a6, a7, a8, a9, a10, a11, a12, a13, a14⟩ := h.2.2.2.2.1 m hm
  have e0 : k_cc (k_idle n m) = k_cc n := by unfold k_cc; rw [k_idle_0]
  have e3 : ∀ j, (k_idle n m) 3 m j = if j = 4 then 0 else if j = 5 then -1 else if j = 6 then 0 else if j = 7 then 0 else if j = 8 then -1 else if j = 9 then 0 else n 3 m j := by
    intro j
    unfold k_idle k_clr
    rw [na_k (by decide), na_k (by decide)]
    simp only [nw_at]
    by_cases g9 : j = 9
    · subst g9; simp
    by_cases g8 : j = 8
    · subst g8; simp
    by_cases g7 : j = 7
    · subst g7; simp
    by_cases g6 : j = 6
    · subst g6; simp
    by_cases g5 : j = 5
    · subst g5; simp
    by_cases g4 : j = 4
    · subst g4; simp
    simp [g9, g8, g7, g6, g5, g4]
  have e5 : ∀ c, (k_idle n m) 5 m c = 0 := by intro c; unfold k_idle k_clr; rw [na_k (by decide), na_at, if_pos ⟨rfl, rfl⟩]
  have e6 : ∀ c, (k_idle n m) 6 m c = -1 := by intro c; unfold k_idle k_clr; rw [na_at, if_pos ⟨rfl, rfl⟩]
  have w8 : r_end w m (210 + 91 * m + 8) = -1 := by unfold r_end r_wd; rw [up_s]
  refine r_N_mob h hm (fun kd h3 h4 h5 h6 => ?_) (fun kd i hi => ?_) (fun j hj => ?_) ?_ (k_idle_wf h.2.2.2.2.2 m)
  · unfold k_idle k_clr
    rw [na_k h6, na_k h5, nw_k h3, nw_k h3, nw_k h3, nw_k h3, nw_k h3, nw_k h3]
  · funext j
    unfold k_idle k_clr
    simp [na_at, nw_at, hi]
  · unfold r_end r_wd
    rw [up_n (by omega), up_n (by omega), up_n (by omega), up_n (by omega)]
  · refine ⟨fun f hf => ?_, by rw [w8, e3]; rfl, fun z => ?_, fun z => absurd (by rw [e3]; rfl) z, Or.inl (by rw [e3]; rfl), fun z => ?_, fun _ => ⟨by rw [e3]; rfl, fun c _ => ⟨e5 c, e6 c⟩⟩, fun _ => by rw [e3]; rfl, fun z => ?_, Or.inl (by rw [e3]; rfl), fun z => absurd (by rw [e3]; rfl) z, fun z => ?_, ?_, fun z => ?_⟩
    · unfold r_end r_wd
      rw [e3, up_n (by omega)]
      rcases (show f = 0 ∨ f = 1 ∨ f = 2 ∨ f = 3 ∨ f = 4 ∨ f = 5 ∨ f = 6 by omega) with rfl | rfl | rfl | rfl | rfl | rfl | rfl
      · rw [up_n (by omega), up_n (by omega), up_n (by omega)]; exact a1 0 (by decide)
      · rw [up_n (by omega), up_n (by omega), up_n (by omega)]; exact a1 1 (by decide)
      · rw [up_n (by omega), up_n (by omega), up_n (by omega)]; exact a1 2 (by decide)
      · rw [up_n (by omega), up_n (by omega), up_n (by omega)]; exact a1 3 (by decide)
      · rw [up_n (by omega), up_n (by omega), up_s]; rfl
      · rw [up_n (by omega), up_s]; rfl
      · rw [up_s]; rfl
    · rw [e3, if_pos rfl] at z; exact absurd z (by decide)
    · rw [e3, if_pos rfl] at z; exact absurd z (by decide)
    · rw [e3, if_pos rfl] at z; exact absurd z (by decide)
    · rw [e3, if_pos rfl] at z; exact absurd z (by decide)
    · rw [e3, e3]; exact a13
    · rw [e3, if_pos rfl] at z; exact absurd z (by decide)
theorem r_N_beg {n : ch_N} {w : Nat → Int32} {m s : Nat} (h : r_N n w) (hm : m < k_mc n) (hs : s < k_cc n) (hleft : 0 < n 3 m 6) : r_N (k_beg n m (nI s)) (r_beg w m (nI s)) := by
  obtain ⟨a1, a2, a3, a4, a5, a6, a7, a8, a9, a10, a11, a12, a13, a14⟩ := h.2.2.2.2.1 m hm
  have hs8 := r_c8 h hs
  have e0 : k_cc (k_beg n m (nI s)) = k_cc n := by unfold k_cc; rw [k_beg_0]
  have e3 : ∀ j, (k_beg n m (nI s)) 3 m j = if j = 4 then 1 else if j = 5 then nI s else if j = 7 then 0 else if j = 8 then -1 else n 3 m j := by
    intro j
    unfold k_beg k_clr
    rw [na_k (by decide), na_k (by decide)]
    simp only [nw_at]
    by_cases g8 : j = 8
    · subst g8; simp
    by_cases g7 : j = 7
    · subst g7; simp
    by_cases g5 : j = 5
    · subst g5; simp
    by_cases g4 : j = 4
    · subst g4; simp
    simp [g8, g7, g5, g4]
  have e5 : ∀ c, (k_beg n m (nI s)) 5 m c = 0 := by intro c; unfold k_beg k_clr; rw [na_k (by decide), na_at, if_pos ⟨rfl, rfl⟩]
  have e6 : ∀ c, (k_beg n m (nI s)) 6 m c = -1 := by intro c; unfold k_beg k_clr; rw [na_at, if_pos ⟨rfl, rfl⟩]
  have ew : ∀ i, r_beg w m (nI s) i = if 210 + 91 * m + 19 ≤ i ∧ i < 210 + 91 * m + 19 + 8 then 0 else if 210 + 91 * m + 11 ≤ i ∧ i < 210 + 91 * m + 11 + 8 then -1 else if i = 210 + 91 * m + 8 then -1 else if i = 210 + 91 * m + 7 then 0 else if i = 210 + 91 * m + 5 then nI s else if i = 210 + 91 * m + 4 then 1 else w i := by
    intro i
    unfold r_beg
    rw [r_bgL_at _ _ 8 i (Nat.le_refl _)]
    rfl
  refine r_N_mob h hm (fun kd h3 h4 h5 h6 => ?_) (fun kd i hi => ?_) (fun j hj => ?_) ?_ (k_beg_wf h.2.2.2.2.2 m _)
  · unfold k_beg k_clr
    rw [na_k h6, na_k h5, nw_k h3, nw_k h3, nw_k h3, nw_k h3]
  · funext j
    unfold k_beg k_clr
    simp [na_at, nw_at, hi]
  · rw [ew, if_neg (by omega), if_neg (by omega), if_neg (by omega), if_neg (by omega), if_neg (by omega), if_neg (by omega)]
  · have s1 : k_beg n m (nI s) 3 m 4 = 1 := by rw [e3, if_pos rfl]
    have s8 : k_beg n m (nI s) 3 m 8 = -1 := by rw [e3]; rfl
    refine ⟨fun f hf => ?_, ?_, fun _ => ⟨?_, fun c hc => ⟨?_, ?_, fun k hk => ?_⟩⟩, fun z => absurd s8 z, Or.inr (Or.inl s1), fun _ => ⟨s, by rw [e0]; exact hs, by rw [e3]; rfl⟩, fun z => absurd s1 z, fun z => ?_, fun z => ?_, Or.inl s8, fun _ => by rw [e3]; exact hleft, fun _ c hc z => ?_, ?_, fun _ c k hc hk => ?_⟩
    · rw [ew, if_neg (by omega), if_neg (by omega), if_neg (by omega), if_neg (by omega), e3]
      by_cases g5 : f = 5
      · subst g5; rw [if_pos rfl]; rfl
      by_cases g4 : f = 4
      · subst g4; rw [if_neg (by omega), if_pos rfl]; rfl
      rw [if_neg (by omega), if_neg (by omega), if_neg g4, if_neg g5, if_neg (by omega), if_neg (by omega)]
      exact a1 f hf
    · rw [ew, if_neg (by omega), if_neg (by omega), if_pos rfl, s8]
    · rw [ew, if_neg (by omega), if_neg (by omega), if_neg (by omega), if_pos rfl, e3]; rfl
    · rw [ew, if_neg (by omega), if_pos (by omega), e6]
    · rw [ew, if_pos (by omega), e5]
    · rw [e5] at hk; exact absurd hk (Nat.not_lt_zero _)
    · rw [s1] at z; exact absurd z (by decide)
    · rw [s1] at z; exact absurd z (by decide)
    · rw [s8] at z; exact absurd z.symm (nI_nm1 (by omega))
    · rw [e3, e3]; exact a13
    · rw [e5] at hk; exact absurd hk (Nat.not_lt_zero _)
/-! THE REFERENCE'S STEPS OF A TICK hold the class's -/
theorem r_M_set {n : ch_N} {w : Nat → Int32} {m f : Nat} {v : Int32} (h : r_M n w m) (hf : f = 0 ∨ f = 1 ∨ f = 2 ∨ f = 3 ∨ f = 6 ∨ f = 7) (h6 : f = 6 → ¬ n 3 m 4 = 0 → 0 < v) (h01 : f = 0 ∨ f = 1 → ¬ v < 0 ∧ ¬ 999 < v) : r_M (nw n 3 m f v) (up w (210 + 91 * m + f) v) m := by
  obtain ⟨a1, a2, a3, a4, a5, a6, a7, a8, a9, a10, a11, a12, a13, a14⟩ := h
  have e3 : ∀ j, j ≠ f → nw n 3 m f v 3 m j = n 3 m j := fun j hj => by rw [nw_at, if_neg (fun z => hj z.2.2)]
  have eF : nw n 3 m f v 3 m f = v := by rw [nw_at, if_pos ⟨rfl, rfl, rfl⟩]
  have ek : ∀ kd, kd ≠ 3 → nw n 3 m f v kd = n kd := fun kd hk => nw_k hk
  have ec : k_cc (nw n 3 m f v) = k_cc n := by unfold k_cc; rw [ek 0 (by decide)]
  have ew : ∀ j, j ≠ f → up w (210 + 91 * m + f) v (210 + 91 * m + j) = w (210 + 91 * m + j) := fun j hj => up_n (by omega)
  unfold r_M
  rw [e3 4 (by omega), e3 5 (by omega), e3 8 (by omega), e3 9 (by omega), ek 2 (by decide), ek 4 (by decide), ek 5 (by decide), ek 6 (by decide), ec]
  refine ⟨fun g hg => ?_, by rw [ew 8 (by omega)]; exact a2, fun ht => ⟨?_, fun c hc => ?_⟩, fun hr => ⟨by rw [ew 10 (by omega)]; exact (a4 hr).1, by rw [ew 9 (by omega)]; exact (a4 hr).2⟩, a5, a6, a7, a8, a9, a10, fun hs => ?_, a12, ?_, a14⟩
  · by_cases e : g = f
    · subst e; rw [up_s, eF]
    · rw [ew g e, e3 g e]; exact a1 g hg
  · by_cases e : 7 = f
    · subst e; rw [up_s, eF]
    · rw [ew 7 e, e3 7 e]; exact (a3 ht).1
  · obtain ⟨b1, b2, b3⟩ := (a3 ht).2 c hc
    exact ⟨by rw [ew _ (by omega)]; exact b1, by rw [ew _ (by omega)]; exact b2, fun k hk => by rw [ew _ (by omega)]; exact b3 k hk⟩
  · by_cases e : 6 = f
    · subst e; rw [eF]; exact h6 rfl hs
    · rw [e3 6 e]; exact a11 hs
  · by_cases e0 : 0 = f
    · subst e0; rw [eF, e3 1 (by decide)]; exact ⟨(h01 (Or.inl rfl)).1, (h01 (Or.inl rfl)).2, a13.2.2.1, a13.2.2.2⟩
    · by_cases e1 : 1 = f
      · subst e1; rw [eF, e3 0 (by decide)]; exact ⟨a13.1, a13.2.1, (h01 (Or.inr rfl)).1, (h01 (Or.inr rfl)).2⟩
      · rw [e3 0 e0, e3 1 e1]; exact a13
theorem r_N_set {n : ch_N} {w : Nat → Int32} {m f : Nat} {v : Int32} (h : r_N n w) (hm : m < k_mc n) (hf : f = 0 ∨ f = 1 ∨ f = 2 ∨ f = 3 ∨ f = 6 ∨ f = 7) (h6 : f = 6 → ¬ n 3 m 4 = 0 → 0 < v) (h01 : f = 0 ∨ f = 1 → ¬ v < 0 ∧ ¬ 999 < v) : r_N (nw n 3 m f v) (up w (210 + 91 * m + f) v) := by
  refine r_N_mob h hm (fun kd h3 _ _ _ => nw_k h3) (fun kd i hi => ?_) (fun j hj => up_n (by omega)) (r_M_set (h.2.2.2.2.1 m hm) hf h6 h01) (nw3_wf h.2.2.2.2.2 _ _ _)
  funext j
  rw [nw_at, if_neg (fun z => hi z.2.1)]
theorem k_idle_set {n : ch_N} {i : Nat} {f : Nat} {v : Int32} (hf : f = 6 ∨ f = 7) : k_idle (nw n 3 i f v) i = k_idle n i := by
  funext a b c
  unfold k_idle k_clr
  simp only [na_at, nw_at]
  by_cases h6 : a = 6 ∧ b = i
  · rw [if_pos h6, if_pos h6]
  · rw [if_neg h6, if_neg h6]
    by_cases h5 : a = 5 ∧ b = i
    · rw [if_pos h5, if_pos h5]
    · rw [if_neg h5, if_neg h5]
      by_cases h3 : a = 3 ∧ b = i
      · obtain ⟨rfl, rfl⟩ := h3
        rcases hf with rfl | rfl
        · by_cases g : c = 6
          · subst g; simp
          · simp [g]
        · by_cases g : c = 7
          · subst g; simp
          · simp [g]
      · have hz : ∀ z : Nat, ¬ (a = 3 ∧ b = i ∧ c = z) := fun z q => h3 ⟨q.1, q.2.1⟩
        simp only [hz, if_false]
theorem r_end_left {w : Nat → Int32} {m : Nat} {v : Int32} : r_end (up w (210 + 91 * m + 6) v) m = r_end w m := by
  funext j
  unfold r_end r_wd up
  by_cases h : j = 210 + 91 * m + 6
  · subst h; simp
  · simp [h]
theorem k_fin_eq (n : ch_N) (i : Nat) : k_fin n i = if 0 < n 3 i 6 - 1 then nw n 3 i 6 (n 3 i 6 - 1) else k_cnt (k_idle n i) 2 := by
  have e : (nw n 3 i 6 (n 3 i 6 - 1)) 3 i 6 = n 3 i 6 - 1 := by rw [nw_at, if_pos ⟨rfl, rfl, rfl⟩]
  unfold k_fin
  dsimp only
  rw [e, k_idle_set (Or.inl rfl)]
def r_X (n : ch_N) (S : ch_S) (μ : ch_M) : Option Value → ch_S → ch_M → Prop := ch_FX none S (fun μ' => ∃ w', μ' = r_wr μ w' ∧ r_N n w')
theorem r_left {x : Int32} (h : 0 < x) : (¬ x - 1 = 0 ↔ 0 < x - 1) := by
  obtain ⟨j, hj, e⟩ := nI_of (x := x) (fun z => Int32.lt_irrefl (Int32.lt_trans h z))
  subst e
  cases j with
  | zero => exact absurd h (by decide)
  | succ j =>
    rw [nI_pred]
    cases j with
    | zero => decide
    | succ j => exact ⟨fun _ => nI_lt (a := 0) (Nat.succ_pos j) (by omega), fun _ => nI_ne0 (Nat.succ_pos j) (by omega)⟩
theorem k_dr_eq (n : ch_N) (i : Nat) (v : Int32) (hv : v = if k_avg n i (n 3 i 5) < n 0 0 8 then n 3 i 7 + 1 else 0) : k_dr n i = if v < n 0 0 9 then nw n 3 i 7 v else k_cnt (k_idle n i) 3 := by
  have e : (nw n 3 i 7 v) 3 i 7 = v := by rw [nw_at, if_pos ⟨rfl, rfl, rfl⟩]
  have e2 : (nw n 3 i 7 v) 0 = n 0 := nw_k (by decide)
  unfold k_dr
  dsimp only
  rw [← hv, e, e2, k_idle_set (Or.inr rfl)]
theorem k_idle_8 {n : ch_N} {i : Nat} {v : Int32} : k_idle (nw n 3 i 8 v) i = k_idle n i := by
  funext a b c
  unfold k_idle k_clr
  simp only [na_at, nw_at]
  by_cases h6 : a = 6 ∧ b = i
  · rw [if_pos h6, if_pos h6]
  · rw [if_neg h6, if_neg h6]
    by_cases h5 : a = 5 ∧ b = i
    · rw [if_pos h5, if_pos h5]
    · rw [if_neg h5, if_neg h5]
      by_cases h3 : a = 3 ∧ b = i
      · obtain ⟨rfl, rfl⟩ := h3
        by_cases g : c = 8
        · subst g; simp
        · simp [g]
      · have hz : ∀ z : Nat, ¬ (a = 3 ∧ b = i ∧ c = z) := fun z q => h3 ⟨q.1, q.2.1⟩
        simp only [hz, if_false]
/-- a talking mobile's request withdrawn -/
theorem r_N_wd {n : ch_N} {w : Nat → Int32} {m : Nat} (h : r_N n w) (hm : m < k_mc n) (ht : n 3 m 4 = 1) : r_N (nw n 3 m 8 (-1)) (r_wd w m) := by
  obtain ⟨a1, a2, a3, a4, a5, a6, a7, a8, a9, a10, a11, a12, a13, a14⟩ := h.2.2.2.2.1 m hm
  have e3 : ∀ j, j ≠ 8 → nw n 3 m 8 (-1) 3 m j = n 3 m j := fun j hj => by rw [nw_at, if_neg (fun z => hj z.2.2)]
  have eF : nw n 3 m 8 (-1) 3 m 8 = -1 := by rw [nw_at, if_pos ⟨rfl, rfl, rfl⟩]
  have ek : ∀ kd, kd ≠ 3 → nw n 3 m 8 (-1) kd = n kd := fun kd hk => nw_k hk
  have ec : k_cc (nw n 3 m 8 (-1)) = k_cc n := by unfold k_cc; rw [ek 0 (by decide)]
  have ew : ∀ j, j ≠ 8 → r_wd w m (210 + 91 * m + j) = w (210 + 91 * m + j) := fun j hj => up_n (by omega)
  refine r_N_mob h hm (fun kd h3 _ _ _ => nw_k h3) (fun kd i hi => ?_) (fun j hj => up_n (by omega)) ?_ (nw3_wf h.2.2.2.2.2 _ _ _)
  · funext j
    rw [nw_at, if_neg (fun z => hi z.2.1)]
  · unfold r_M
    rw [e3 4 (by omega), e3 5 (by omega), eF, e3 9 (by omega), ek 2 (by decide), ek 4 (by decide), ek 5 (by decide), ek 6 (by decide), ec]
    refine ⟨fun g hg => by rw [ew g (by omega), e3 g (by omega)]; exact a1 g hg, up_s _ _ _, fun hz => ⟨by rw [ew 7 (by omega), e3 7 (by omega)]; exact (a3 hz).1, fun c hc => ?_⟩, fun z => absurd rfl z, a5, a6, a7, fun _ => rfl, fun z => ?_, Or.inl rfl, fun hz => by rw [e3 6 (by omega)]; exact a11 hz, fun _ c hc z => absurd z.symm (nI_nm1 (by omega)), by rw [e3 0 (by omega), e3 1 (by omega)]; exact a13, a14⟩
    · obtain ⟨b1, b2, b3⟩ := (a3 hz).2 c hc
      exact ⟨by rw [ew _ (by omega)]; exact b1, by rw [ew _ (by omega)]; exact b2, fun k hk => by rw [ew _ (by omega)]; exact b3 k hk⟩
    · rw [ht] at z; exact absurd z (by decide)
theorem cn3 : Int32.toNatClampNeg 3 = 3 := rfl
theorem cn7 : Int32.toNatClampNeg 7 = 7 := rfl
theorem cn8 : Int32.toNatClampNeg 8 = 8 := rfl
theorem cn9 : Int32.toNatClampNeg 9 = 9 := rfl
theorem k_ex_eq (n : ch_N) (i : Nat) : k_ex n i = if n 3 i 4 = 2 then k_cnt (k_idle (k_cnt n 7) i) 4 else nw (k_cnt n 7) 3 i 8 (-1) := by
  have e : (nw (k_cnt n 7) 3 i 8 (-1)) 3 i 4 = n 3 i 4 := by rw [nw_at, if_neg (fun z => absurd z.2.2 (by decide))]; unfold k_cnt; rw [nw_k (by decide)]
  unfold k_ex
  dsimp only
  rw [e, k_idle_8]
theorem k_cnt_3 (n : ch_N) (t : Nat) : (k_cnt n t) 3 = n 3 := nw_k (by decide)
/-! THE REFERENCE: a relation's number changed; a mobile handed over -/
theorem r_M_same {n n' : ch_N} {w w' : Nat → Int32} {i : Nat} (h : r_N n w) (hi : i < k_mc n) (hw : ∀ f, f < 91 → w' (210 + 91 * i + f) = w (210 + 91 * i + f)) (hk : ∀ kd, kd = 0 ∨ kd = 3 ∨ kd = 4 ∨ kd = 5 ∨ kd = 6 → n' kd = n kd) (h2 : ∀ j, n' 2 j 0 = n 2 j 0) : r_M n' w' i :=
  r_M_congr (h.2.2.2.2.1 i hi) hw (by rw [hk 3 (by omega)]) (by rw [hk 4 (by omega)]) (by rw [hk 5 (by omega)]) (by rw [hk 6 (by omega)]) (by unfold k_cc; rw [hk 0 (by omega)]) h2 (fun c hc => (r_c58 h (show i < 13 by have := r_m12 h hi; omega) hc).2)
theorem r_N_rel {n : ch_N} {w : Nat → Int32} {a b r f : Nat} {v : Int32} (h : r_N n w) (ha : a < 8) (hb : b < 8) (hr : r < Int32.toNatClampNeg (w 1)) (ea : w (90 + 5 * r) = nI a) (eb : w (90 + 5 * r + 1) = nI b) (hf : f = 1 ∨ f = 2 ∨ f = 3) (hex : ¬ n 2 (8 * a + b) 0 = 0) :
    r_N (nw n 2 (8 * a + b) f v) (up w (90 + 5 * r + (f + 1)) v) := by
  have h24 := r_24 h
  have ek : ∀ kd, kd ≠ 2 → nw n 2 (8 * a + b) f v kd = n kd := fun kd hk => nw_k hk
  have e20 : ∀ j, nw n 2 (8 * a + b) f v 2 j 0 = n 2 j 0 := fun j => by rw [nw_at, if_neg (by omega)]
  have ec : k_cc (nw n 2 (8 * a + b) f v) = k_cc n := by unfold k_cc; rw [ek 0 (by decide)]
  have em : k_mc (nw n 2 (8 * a + b) f v) = k_mc n := by unfold k_mc; rw [ek 0 (by decide)]
  have hMs : ∀ i, i < k_mc n → r_M (nw n 2 (8 * a + b) f v) (up w (90 + 5 * r + (f + 1)) v) i := fun i hi => r_M_same h hi (fun g hg => up_n (by omega)) (fun kd hk => ek kd (by omega)) e20
  have hcc8 := h.2.2.2.2.2.2.1
  obtain ⟨a1, ⟨a2, aK⟩, a3, ⟨⟨b1, b2⟩, b3, b4, b5, b6⟩, aM, aW⟩ := h
  have w1 : up w (90 + 5 * r + (f + 1)) v 1 = w 1 := up_n (by omega)
  have wf0 : ∀ t, t < 24 → up w (90 + 5 * r + (f + 1)) v (90 + 5 * t) = w (90 + 5 * t) := fun t ht => up_n (by omega)
  have wf1 : ∀ t, t < 24 → up w (90 + 5 * r + (f + 1)) v (90 + 5 * t + 1) = w (90 + 5 * t + 1) := fun t ht => up_n (by omega)
  refine ⟨fun j hj => by rw [up_n (by omega), ek 0 (by decide)]; exact a1 j hj, ⟨fun t ht => by rw [up_n (by omega), ek 7 (by decide)]; exact a2 t ht, ?_⟩, fun c g hc hg => by rw [up_n (by rw [ec] at hc; omega), ek 1 (by decide)]; exact a3 c g (by rw [ec] at hc; exact hc) hg, ⟨by rw [w1]; exact ⟨b1, b2⟩, fun t ht => ?_, fun t u ht hu e1 e2 => ?_, fun c d hc hd hz => ?_, fun c d hc hd hz => ?_⟩, fun i hi => hMs i (by rw [em] at hi; exact hi), wf_same aW (ek 0 (by decide)) (ek 5 (by decide))⟩
  · unfold r_K at *
    rw [ek 0 (by decide), ek 1 (by decide), ec]
    exact aK
  · rw [w1] at ht
    obtain ⟨c, d, hc, hd, g0, g1, g2, g3, g4, g5⟩ := b3 t ht
    refine ⟨c, d, by rw [ec]; exact hc, by rw [ec]; exact hd, by rw [wf0 t (by omega)]; exact g0, by rw [wf1 t (by omega)]; exact g1, by rw [e20]; exact g2, ?_⟩
    by_cases e : t = r
    · subst e
      have za : c = a := (nI_eq (by omega) (by omega)).mp (g0.symm.trans ea)
      have zb : d = b := (nI_eq (by omega) (by omega)).mp (g1.symm.trans eb)
      subst za zb
      rcases hf with rfl | rfl | rfl
      · exact ⟨by rw [up_s, nw_at, if_pos ⟨rfl, rfl, rfl⟩], by rw [up_n (by omega), nw_at, if_neg (by omega)]; exact g4, by rw [up_n (by omega), nw_at, if_neg (by omega)]; exact g5⟩
      · exact ⟨by rw [up_n (by omega), nw_at, if_neg (by omega)]; exact g3, by rw [up_s, nw_at, if_pos ⟨rfl, rfl, rfl⟩], by rw [up_n (by omega), nw_at, if_neg (by omega)]; exact g5⟩
      · exact ⟨by rw [up_n (by omega), nw_at, if_neg (by omega)]; exact g3, by rw [up_n (by omega), nw_at, if_neg (by omega)]; exact g4, by rw [up_s, nw_at, if_pos ⟨rfl, rfl, rfl⟩]⟩
    · have hne : ¬ 8 * c + d = 8 * a + b := fun z => e (b4 t r ht hr (by rw [g0, ea]; congr 1; omega) (by rw [g1, eb]; congr 1; omega))
      exact ⟨by rw [up_n (by omega), nw_at, if_neg (fun z => hne z.2.1)]; exact g3, by rw [up_n (by omega), nw_at, if_neg (fun z => hne z.2.1)]; exact g4, by rw [up_n (by omega), nw_at, if_neg (fun z => hne z.2.1)]; exact g5⟩
  · rw [w1] at ht hu
    rw [wf0 t (by omega), wf0 u (by omega)] at e1
    rw [wf1 t (by omega), wf1 u (by omega)] at e2
    exact b4 t u ht hu e1 e2
  · rw [e20] at hz
    obtain ⟨t, ht, g1, g2⟩ := b5 c d hc hd hz
    exact ⟨t, by rw [w1]; exact ht, by rw [wf0 t (by omega)]; exact g1, by rw [wf1 t (by omega)]; exact g2⟩
  · rw [e20] at hz
    have hne : ¬ 8 * c + d = 8 * a + b := fun z => hex (by rw [← z]; exact hz)
    rw [nw_at, if_neg (fun z => hne z.2.1), nw_at, if_neg (fun z => hne z.2.1)]
    exact b6 c d hc hd hz
/-- the mobile's part of a handover -/
def k_hom (n : ch_N) (i : Nat) (t v : Int32) : ch_N := nw (nw (nw (k_bar n i (n 3 i 5) v) 3 i 5 t) 3 i 7 0) 3 i 8 (-1)
def r_hom (w : Nat → Int32) (m s : Nat) (t v : Int32) : Nat → Int32 := r_wd (up (up (up w (210 + 91 * m + 5) t) (210 + 91 * m + (11 + s)) v) (210 + 91 * m + 7) 0) m
theorem k_hom_c {n : ch_N} {i s : Nat} {t v : Int32} (hs : s < 8) (h5 : n 3 i 5 = nI s) : k_hom n i t v = nw (nw (nw (nw n 6 i s v) 3 i 5 t) 3 i 7 0) 3 i 8 (-1) := by
  unfold k_hom k_bar
  rw [h5, if_neg (nI_pos (by omega)), if_pos (show nI s < 8 from nI_lt (b := 8) hs (by decide)), nI_clamp (by omega)]
theorem r_N_hom {n : ch_N} {w : Nat → Int32} {m s t : Nat} {v : Int32} (h : r_N n w) (hm : m < k_mc n) (ht : n 3 m 4 = 1) (h5 : n 3 m 5 = nI s) (hs : s < 8) (htc : t < k_cc n) : r_N (k_hom n m (nI t) v) (r_hom w m s (nI t) v) := by
  obtain ⟨a1, a2, a3, a4, a5, a6, a7, a8, a9, a10, a11, a12, a13, a14⟩ := h.2.2.2.2.1 m hm
  have ht8 := r_c8 h htc
  rw [k_hom_c hs h5]
  have e3 : ∀ j, nw (nw (nw (nw n 6 m s v) 3 m 5 (nI t)) 3 m 7 0) 3 m 8 (-1) 3 m j = if j = 8 then -1 else if j = 7 then 0 else if j = 5 then nI t else n 3 m j := by
    intro j
    simp only [nw_at]
    by_cases g8 : j = 8
    · subst g8; simp
    by_cases g7 : j = 7
    · subst g7; simp
    by_cases g5 : j = 5
    · subst g5; simp
    simp [g8, g7, g5]
  have ek : ∀ kd, kd ≠ 3 → kd ≠ 6 → nw (nw (nw (nw n 6 m s v) 3 m 5 (nI t)) 3 m 7 0) 3 m 8 (-1) kd = n kd := fun kd h3 h6 => by rw [nw_k h3, nw_k h3, nw_k h3, nw_k h6]
  have e6 : ∀ c, nw (nw (nw (nw n 6 m s v) 3 m 5 (nI t)) 3 m 7 0) 3 m 8 (-1) 6 m c = if c = s then v else n 6 m c := fun c => by
    rw [nw_k (by decide), nw_k (by decide), nw_k (by decide), nw_at]
    by_cases e : c = s
    · rw [if_pos ⟨rfl, rfl, e⟩, if_pos e]
    · rw [if_neg (fun z => e z.2.2), if_neg e]
  have ew : ∀ i, r_hom w m s (nI t) v i = if i = 210 + 91 * m + 8 then -1 else if i = 210 + 91 * m + 7 then 0 else if i = 210 + 91 * m + (11 + s) then v else if i = 210 + 91 * m + 5 then nI t else w i := fun i => rfl
  have hoff : ∀ kd i, i ≠ m → nw (nw (nw (nw n 6 m s v) 3 m 5 (nI t)) 3 m 7 0) 3 m 8 (-1) kd i = n kd i := fun kd i hi => by
    funext j
    simp [nw_at, hi]
  generalize nw (nw (nw (nw n 6 m s v) 3 m 5 (nI t)) 3 m 7 0) 3 m 8 (-1) = n' at *
  have ec : k_cc n' = k_cc n := by unfold k_cc; rw [ek 0 (by decide) (by decide)]
  have s1 : n' 3 m 4 = 1 := by rw [e3, if_neg (by decide), if_neg (by decide), if_neg (by decide), ht]
  have s8 : n' 3 m 8 = -1 := by rw [e3, if_pos rfl]
  refine r_N_mob h hm (fun kd h3 _ _ h6 => ek kd h3 h6) hoff (fun j hj => by rw [ew, if_neg (by omega), if_neg (by omega), if_neg (by omega), if_neg (by omega)]) ?_ (wf_same h.2.2.2.2.2 (ek 0 (by decide) (by decide)) (ek 5 (by decide) (by decide)))
  unfold r_M
  rw [s1, s8, ek 2 (by decide) (by decide), ek 4 (by decide) (by decide), ek 5 (by decide) (by decide), ec]
  refine ⟨fun f hf => ?_, by rw [ew, if_pos rfl], fun _ => ⟨by rw [ew, if_neg (by omega), if_pos rfl, e3, if_neg (by decide), if_pos rfl], fun c hc => ?_⟩, fun z => absurd rfl z, Or.inr (Or.inl rfl), fun _ => ⟨t, htc, by rw [e3, if_neg (by decide), if_neg (by decide), if_pos rfl]⟩, fun z => absurd rfl z, fun z => absurd z (by decide), fun z => absurd z (by decide), Or.inl rfl, fun _ => ?_, fun _ c hc z => absurd z.symm (nI_nm1 (by omega)), ?_, fun _ => a14 ht⟩
  · rw [ew, e3, if_neg (by omega), if_neg (by omega), if_neg (by omega)]
    by_cases g5 : f = 5
    · subst g5
      rw [if_pos rfl, if_neg (by decide), if_neg (by decide), if_pos rfl]
    · rw [if_neg (by omega), if_neg (by omega), if_neg (by omega), if_neg g5]
      exact a1 f hf
  · obtain ⟨b1, b2, b3⟩ := (a3 ht).2 c hc
    refine ⟨?_, ?_, fun k hk => ?_⟩
    · rw [ew, if_neg (by omega), if_neg (by omega), e6]
      by_cases e : c = s
      · rw [if_pos (by omega), if_pos e]
      · rw [if_neg (by omega), if_neg (by omega), if_neg e]; exact b1
    · rw [ew, if_neg (by omega), if_neg (by omega), if_neg (by omega), if_neg (by omega)]; exact b2
    · rw [ew, if_neg (by omega), if_neg (by omega), if_neg (by omega), if_neg (by omega)]; exact b3 k hk
  · rw [e3, if_neg (by decide), if_neg (by decide), if_neg (by decide)]
    exact a11 (by rw [ht]; decide)
  · rw [e3, e3, if_neg (by decide), if_neg (by decide), if_neg (by decide), if_neg (by decide), if_neg (by decide), if_neg (by decide)]
    exact a13
theorem k_cnt_nw {n : ch_N} {kd i j t : Nat} {v : Int32} (h : kd ≠ 7) : k_cnt (nw n kd i j v) t = nw (k_cnt n t) kd i j v := by
  funext a b c
  unfold k_cnt
  rw [nw_k (show (7 : Nat) ≠ kd from fun z => h z.symm)]
  simp only [nw_at]
  by_cases h1 : a = 7 ∧ b = 0 ∧ c = t
  · rw [if_pos h1, if_neg (fun z => h (z.1.symm.trans h1.1)), if_pos h1]
  · rw [if_neg h1, if_neg h1]
theorem k_cnt_cnt (n : ch_N) : k_cnt (k_cnt n 1) 0 = k_cnt (k_cnt n 0) 1 := by
  funext a b c
  unfold k_cnt
  simp only [nw_at]
  by_cases h0 : a = 7 ∧ b = 0 ∧ c = 0
  · obtain ⟨rfl, rfl, rfl⟩ := h0; simp
  · by_cases h1 : a = 7 ∧ b = 0 ∧ c = 1
    · obtain ⟨rfl, rfl, rfl⟩ := h1; simp
    · simp [h0, h1]
theorem k_ho_eq {n n2 : ch_N} {i s t : Nat} (hs : s < 8) (ht : t < 8) (h5 : n 3 i 5 = nI s) (h2 : n2 = if k_isb n i (nI t) (n 0 0 3) = true then k_cnt (k_cnt n 0) 1 else k_cnt n 0) :
    k_ho n i (nI t) = nw (k_hom n2 i (nI t) (n 0 0 3 + n 0 0 6)) 2 (8 * s + t) 2 (k_hom n2 i (nI t) (n 0 0 3 + n 0 0 6) 2 (8 * s + t) 2 + 1) := by
  obtain ⟨n1, hn1⟩ : ∃ z, z = (if k_isb n i (nI t) (n 0 0 3) = true then k_cnt n 1 else n) := ⟨_, rfl⟩
  have e12 : k_cnt n1 0 = n2 := by
    rw [hn1, h2]
    split
    · exact k_cnt_cnt n
    · rfl
  have e10 : n1 0 = n 0 := by
    rw [hn1]
    split
    · exact k_cnt_0 _ _
    · rfl
  have e23 : n2 3 = n 3 := by
    rw [h2]
    split
    · rw [k_cnt_3, k_cnt_3]
    · exact k_cnt_3 _ _
  have e122 : n2 2 = n1 2 := by rw [← e12]; exact nw_k (by decide)
  rw [k_hom_c hs (by rw [e23]; exact h5)]
  unfold k_ho
  dsimp only
  rw [← hn1, h5, r_rx hs ht, e10]
  unfold k_bar
  rw [if_neg (nI_pos (by omega)), if_pos (show nI s < 8 from nI_lt (b := 8) hs (by decide)), nI_clamp (by omega)]
  rw [k_cnt_nw (by decide), k_cnt_nw (by decide), k_cnt_nw (by decide), k_cnt_nw (by decide), k_cnt_nw (by decide), e12]
  congr 1
  rw [nw_k (by decide), nw_k (by decide), nw_k (by decide), nw_k (by decide), nw_k (by decide), nw_k (by decide), nw_k (by decide), nw_k (by decide), e122]
theorem cn6 : Int32.toNatClampNeg 6 = 6 := rfl
/-! THE REFERENCE: a report; the levels measured -/
theorem r_bd {x K : Int32} {k : Nat} (hK : K = nI k) (h0 : ¬ x < 0) (h1 : ¬ K < x) : ∃ a, a ≤ k ∧ x = nI a := by
  obtain ⟨j, hj, rfl⟩ := nI_of h0
  refine ⟨j, Nat.le_of_not_lt fun z => h1 ?_, rfl⟩
  rw [hK]
  exact nI_lt z hj
theorem k_abs_c {a b : Nat} (ha : a ≤ 999) (hb : b ≤ 999) : ∃ d, d ≤ 999 ∧ k_abs (nI a - nI b) = nI d := by
  rcases Nat.le_total b a with h | h
  · refine ⟨a - b, by omega, ?_⟩
    rw [pk_sub h]
    unfold k_abs
    rw [if_pos (nI_pos' (by omega))]
  · refine ⟨b - a, by omega, ?_⟩
    rw [k_abs_sub, pk_sub h]
    unfold k_abs
    rw [if_pos (nI_pos' (by omega))]
theorem k_lv_b {n : ch_N} {w : Nat → Int32} (h : r_N n w) {c : Nat} (hc : c < k_cc n) {x y : Int32} (hx : ¬ x < 0 ∧ ¬ 999 < x) (hy : ¬ y < 0 ∧ ¬ 999 < y) : ¬ k_lv n c x y < 0 ∧ ¬ 99 < k_lv n c x y := by
  refine ⟨fun z => ?_, ?_⟩
  · have g := k_lv_nn n c x y
    have g1 := Int32.lt_iff_toInt_lt.mp g
    have g2 := Int32.lt_iff_toInt_lt.mp z
    have e1 : (-1 : Int32).toInt = -1 := by decide
    have e0 : (0 : Int32).toInt = 0 := by decide
    omega
  · obtain ⟨p1, p2, p3, p4, p5, p6, p7, p8⟩ := h.2.1.2.2 c hc
    obtain ⟨a0, h0, e0⟩ := r_bd (k := 999) (by decide) p1 p2
    obtain ⟨a1, h1, e1⟩ := r_bd (k := 999) (by decide) p3 p4
    obtain ⟨a2, h2, e2⟩ := r_bd (k := 99) (by decide) p5 p6
    obtain ⟨a3, h3, e3⟩ := r_bd (k := 50) (by decide) p7 p8
    obtain ⟨ax, hax, ex⟩ := r_bd (k := 999) (by decide) hx.1 hx.2
    obtain ⟨ay, hay, ey⟩ := r_bd (k := 999) (by decide) hy.1 hy.2
    obtain ⟨d1, hd1, g1⟩ := k_abs_c hax h0
    obtain ⟨d2, hd2, g2⟩ := k_abs_c hay h1
    unfold k_lv
    rw [e0, e1, e2, e3, ex, ey, g1, g2, nI_add, pk_mul, show (100 : Int32) = nI 100 from rfl]
    have hb : a3 * (d1 + d2) ≤ 50 * 1998 := Nat.mul_le_mul h3 (by omega)
    rw [pk_div (by omega) (by decide) (by decide)]
    unfold k_max
    rcases Nat.lt_or_ge a2 (a3 * (d1 + d2) / 100) with g | g
    · rw [if_neg (fun z => by
        have := pk_sneg (a := a2) (b := a3 * (d1 + d2) / 100) (by omega) g
        have g1 := Int32.lt_iff_toInt_lt.mp z
        have g2 := Int32.lt_iff_toInt_lt.mp this
        omega)]
      decide
    · rw [pk_sub g]
      split
      · exact nI_nlt (a := 99) (by omega) (by decide)
      · decide
/-- the reports of one cell changed on both sides -/
theorem r_N_rep {n n' : ch_N} {w w' : Nat → Int32} {m c q : Nat} (h : r_N n w) (hm : m < k_mc n) (ht : n 3 m 4 = 1) (hc : c < 8) (hq : q ≤ 8)
    (hk : ∀ kd, kd ≠ 4 → kd ≠ 5 → n' kd = n kd) (hn : ∀ kd i, i ≠ m → n' kd i = n kd i) (h5 : n' 5 m c = nI q) (h5' : ∀ d, d ≠ c → n' 5 m d = n 5 m d)
    (h4' : ∀ d k, d ≠ c → k < 8 → n' 4 m (8 * d + k) = n 4 m (8 * d + k)) (hw5 : w' (210 + 91 * m + (19 + c)) = nI q)
    (hw : ∀ j, j ≠ 210 + 91 * m + (19 + c) → ¬ (210 + 91 * m + (27 + 8 * c) ≤ j ∧ j < 210 + 91 * m + (27 + 8 * c) + 8) → w' j = w j)
    (hl : ∀ k, k < q → w' (210 + 91 * m + (27 + 8 * c + k)) = n' 4 m (8 * c + k) ∧ ¬ n' 4 m (8 * c + k) < 0 ∧ ¬ 99 < n' 4 m (8 * c + k)) (hwf : k_wf n') : r_N n' w' := by
  obtain ⟨a1, a2, a3, a4, a5, a6, a7, a8, a9, a10, a11, a12, a13, a14⟩ := h.2.2.2.2.1 m hm
  have e3 : n' 3 = n 3 := hk 3 (by decide) (by decide)
  have ec : k_cc n' = k_cc n := by unfold k_cc; rw [hk 0 (by decide) (by decide)]
  refine r_N_mob h hm (fun kd _ h4 h5 _ => hk kd h4 h5) hn (fun j hj => hw j (by omega) (by omega)) ?_ hwf
  unfold r_M
  rw [e3, hk 6 (by decide) (by decide), hk 2 (by decide) (by decide), ec]
  refine ⟨fun f hf => by rw [hw _ (by omega) (by omega)]; exact a1 f hf, by rw [hw _ (by omega) (by omega)]; exact a2, fun _ => ⟨by rw [hw _ (by omega) (by omega)]; exact (a3 ht).1, fun d hd => ?_⟩, fun hr => ⟨by rw [hw _ (by omega) (by omega)]; exact (a4 hr).1, by rw [hw _ (by omega) (by omega)]; exact (a4 hr).2⟩, a5, a6, fun z => absurd ht z, a8, a9, a10, a11, a12, a13, fun _ d k hd hk => ?_⟩
  · obtain ⟨b1, b2, b3⟩ := (a3 ht).2 d hd
    by_cases e : d = c
    · subst e
      exact ⟨by rw [hw _ (by omega) (by omega)]; exact b1, by rw [hw5, h5], fun k hk => (hl k (by rw [h5, nI_clamp (by omega)] at hk; exact hk)).1⟩
    · refine ⟨by rw [hw _ (by omega) (by omega)]; exact b1, by rw [hw _ (by omega) (by omega), h5' d e]; exact b2, fun k hk => ?_⟩
      rw [h5' d e] at hk
      have hk8 : k < 8 := Nat.lt_of_lt_of_le hk (r_c58 h (show m < 13 by have := r_m12 h hm; omega) hd).2
      rw [hw _ (by omega) (by omega), h4' d k e hk8]
      exact b3 k hk
  · by_cases e : d = c
    · subst e
      exact (hl k (by rw [h5, nI_clamp (by omega)] at hk; exact hk)).2
    · rw [h5' d e] at hk
      have hk8 : k < 8 := Nat.lt_of_lt_of_le hk (r_c58 h (show m < 13 by have := r_m12 h hm; omega) hd).2
      rw [h4' d k e hk8]
      exact a14 ht d k hd hk
def r_sh (w : Nat → Int32) (a j : Nat) : Nat → Int32 := fun i => if a ≤ i ∧ i < a + j then w (i + 1) else w i
theorem r_sh_0 (w : Nat → Int32) (a : Nat) : r_sh w a 0 = w := by funext i; unfold r_sh; rw [if_neg (by omega)]
theorem r_sh_s (w : Nat → Int32) (a j : Nat) : up (r_sh w a j) (a + j) (r_sh w a j (a + (j + 1))) = r_sh w a (j + 1) := by
  funext i
  by_cases e : i = a + j
  · subst e; rw [up_s]; unfold r_sh; rw [if_neg (by omega), if_pos (by omega)]; rfl
  · rw [up_n e]; unfold r_sh
    by_cases g : a ≤ i ∧ i < a + j
    · rw [if_pos g, if_pos (by omega)]
    · rw [if_neg g, if_neg (by omega)]
/-- one more report, as the two sides keep it -/
theorem r_N_add {n : ch_N} {w : Nat → Int32} {m c cnt W : Nat} {v : Int32} (h : r_N n w) (hm : m < k_mc n) (ht : n 3 m 4 = 1) (hc : c < 8) (hv : ¬ v < 0 ∧ ¬ 99 < v) (e5 : n 5 m c = nI cnt) (eW : n 0 0 4 = nI W) (hW : W ≤ 8) (hcW : cnt ≤ W) :
    (cnt < W → r_N (k_add n m c v (Int32.toNatClampNeg (n 0 0 4))) (up (up w (210 + 91 * m + (27 + 8 * c + cnt)) v) (210 + 91 * m + (19 + c)) (nI (cnt + 1)))) ∧
    (∀ p, cnt = p + 1 → cnt = W → r_N (k_add n m c v (Int32.toNatClampNeg (n 0 0 4))) (up (up (r_sh w (210 + 91 * m + (27 + 8 * c)) p) (210 + 91 * m + (27 + 8 * c + p)) v) (210 + 91 * m + (19 + c)) (nI (p + 1)))) := by
  have hm12 := r_m12 h hm
  have hwf := k_add_wf (i := m) (c := c) h.2.2.2.2.2 (by omega) hc v
  have hlv : ∀ k, k < cnt → w (210 + 91 * m + (27 + 8 * c + k)) = n 4 m (8 * c + k) ∧ ¬ n 4 m (8 * c + k) < 0 ∧ ¬ 99 < n 4 m (8 * c + k) := fun k hk => ⟨r_lv h hm ht hc (by rw [e5, nI_clamp (by omega)]; exact hk), (h.2.2.2.2.1 m hm).2.2.2.2.2.2.2.2.2.2.2.2.2 ht c k hc (by rw [e5, nI_clamp (by omega)]; exact hk)⟩
  have eq : k_add n m c v (Int32.toNatClampNeg (n 0 0 4)) = if cnt < W then nw (nw n 4 m (8 * c + cnt) v) 5 m c (nI (cnt + 1)) else nw (nw (k_drp n m (8 * c) cnt) 4 m (8 * c + (cnt - 1)) v) 5 m c (nI (cnt - 1 + 1)) := by
    unfold k_add
    rw [e5, eW, nI_clamp (by omega), nI_clamp (by omega), nI_1, nI_1]
  refine ⟨fun hlt => ?_, fun p hp hWe => ?_⟩
  · rw [eq, if_pos hlt] at hwf ⊢
    refine r_N_rep h hm ht hc (q := cnt + 1) (by omega) (fun kd h4 h5 => by rw [nw_k h5, nw_k h4]) (fun kd i hi => ?_) (by rw [nw_at, if_pos ⟨rfl, rfl, rfl⟩]) (fun d hd => by rw [nw_at, if_neg (fun z => hd z.2.2), nw_k (by decide)]) (fun d k hd hk => by rw [nw_k (by decide), nw_at, if_neg (by omega)]) (up_s _ _ _) (fun j h1 h2 => by rw [up_n h1, up_n (by omega)]) (fun k hk => ?_) hwf
    · funext j
      simp [nw_at, hi]
    · rw [up_n (by omega), nw_k (by decide), nw_at]
      by_cases e : k = cnt
      · subst e; rw [up_s, if_pos ⟨rfl, rfl, rfl⟩]; exact ⟨rfl, hv⟩
      · rw [up_n (by omega), if_neg (by omega)]; exact hlv k (by omega)
  · subst hp
    rw [eq, if_neg (by omega), Nat.add_sub_cancel] at hwf ⊢
    have ed : k_drp n m (8 * c) (p + 1) = na n 4 m (fun t => if 8 * c ≤ t ∧ t < 8 * c + p then n 4 m (t + 1) else n 4 m t) := rfl
    rw [ed] at hwf ⊢
    refine r_N_rep h hm ht hc (q := p + 1) (by omega) (fun kd h4 h5 => by rw [nw_k h5, nw_k h4, na_k h4]) (fun kd i hi => ?_) (by rw [nw_at, if_pos ⟨rfl, rfl, rfl⟩]) (fun d hd => by rw [nw_at, if_neg (fun z => hd z.2.2), nw_k (by decide), na_k (by decide)]) (fun d k hd hk => by rw [nw_k (by decide), nw_at, if_neg (by omega), na_at, if_pos ⟨rfl, rfl⟩, if_neg (by omega)]) (up_s _ _ _) (fun j h1 h2 => by rw [up_n h1, up_n (by omega)]; unfold r_sh; rw [if_neg (by omega)]) (fun k hk => ?_) hwf
    · funext j
      simp [nw_at, na_at, hi]
    · rw [up_n (by omega), nw_k (by decide), nw_at]
      by_cases e : k = p
      · subst e; rw [up_s, if_pos ⟨rfl, rfl, rfl⟩]; exact ⟨rfl, hv⟩
      · rw [up_n (by omega), if_neg (by omega), na_at, if_pos ⟨rfl, rfl⟩, if_pos (by omega)]
        unfold r_sh
        rw [if_pos (by omega)]
        exact hlv (k + 1) (by omega)
theorem k_crp_c {n : ch_N} {m c : Nat} (hc : c < 8) : k_crp n m (nI c) = nw n 5 m c 0 := by
  unfold k_crp
  rw [if_neg (nI_pos (by omega)), if_pos (show nI c < 8 from nI_lt (b := 8) hc (by decide)), nI_clamp (by omega)]
theorem r_N_crp {n : ch_N} {w : Nat → Int32} {m c : Nat} (h : r_N n w) (hm : m < k_mc n) (ht : n 3 m 4 = 1) (hc : c < 8) : r_N (k_crp n m (nI c)) (up w (210 + 91 * m + (19 + c)) 0) := by
  have hwf := k_crp_wf h.2.2.2.2.2 m (nI c)
  rw [k_crp_c hc] at hwf ⊢
  refine r_N_rep h hm ht hc (q := 0) (by omega) (fun kd h4 h5 => nw_k h5) (fun kd i hi => ?_) (by rw [nw_at, if_pos ⟨rfl, rfl, rfl⟩]; rfl) (fun d hd => by rw [nw_at, if_neg (fun z => hd z.2.2)]) (fun d k hd hk => by rw [nw_k (by decide)]) (up_s _ _ _) (fun j h1 h2 => up_n h1) (fun k hk => absurd hk (Nat.not_lt_zero _)) hwf
  funext j
  simp [nw_at, hi]
theorem k_ms1_k (m c : Nat) (n : ch_N) {kd : Nat} (h4 : kd ≠ 4) (h5 : kd ≠ 5) : (k_ms1 m c n) kd = n kd := by
  unfold k_ms1
  split
  · unfold k_add k_drp
    split
    · rw [nw_k h5, nw_k h4]
    · rw [nw_k h5, nw_k h4, na_k h4]
  · unfold k_crp
    split
    · rfl
    · split
      · exact nw_k h5
      · rfl
theorem k_msL_k (m N : Nat) (n : ch_N) {kd : Nat} (h4 : kd ≠ 4) (h5 : kd ≠ 5) : (kf (k_ms1 m) N n) kd = n kd := by
  induction N with
  | zero => rfl
  | succ N ih => rw [kf_s, k_ms1_k m N _ h4 h5, ih]
/-! THE REFERENCE: the queue served -/
def r_cn (p : Nat → Bool) : Nat → Nat
  | 0 => 0
  | N + 1 => r_cn p N + if p N = true then 1 else 0
theorem r_cn_le (p : Nat → Bool) : ∀ N, r_cn p N ≤ N
  | 0 => Nat.le_refl 0
  | N + 1 => by have := r_cn_le p N; unfold r_cn; split <;> omega
theorem r_cn_kf (p : Nat → Prop) [DecidablePred p] : ∀ N, kf (fun i (r : Int32) => if p i then r + 1 else r) N 0 = nI (r_cn (fun i => decide (p i)) N)
  | 0 => rfl
  | N + 1 => by
    have e : r_cn (fun i => decide (p i)) (N + 1) = r_cn (fun i => decide (p i)) N + if decide (p N) = true then 1 else 0 := rfl
    rw [kf_s, r_cn_kf p N, e]
    by_cases h : p N
    · rw [if_pos h, if_pos (decide_eq_true h), nI_1]
    · rw [if_neg h, if_neg (by rw [decide_eq_false h]; decide)]; rfl
theorem r_cn_pos (p : Nat → Bool) : ∀ N, 0 < r_cn p N ↔ ∃ i, i < N ∧ p i = true
  | 0 => ⟨fun z => absurd z (Nat.lt_irrefl 0), fun ⟨i, h, _⟩ => absurd h (Nat.not_lt_zero _)⟩
  | N + 1 => by
    have ih := r_cn_pos p N
    unfold r_cn
    by_cases h : p N = true
    · rw [if_pos h]
      exact ⟨fun _ => ⟨N, Nat.lt_succ_self N, h⟩, fun _ => by omega⟩
    · rw [if_neg h, Nat.add_zero, ih]
      constructor
      · rintro ⟨i, hi, e⟩; exact ⟨i, by omega, e⟩
      · rintro ⟨i, hi, e⟩
        by_cases z : i = N
        · rw [z] at e; exact absurd e h
        · exact ⟨i, by omega, e⟩
theorem r_cn_congr {p q : Nat → Bool} : ∀ N, (∀ i, i < N → q i = p i) → r_cn q N = r_cn p N
  | 0, _ => rfl
  | N + 1, h => by unfold r_cn; rw [r_cn_congr N (fun i hi => h i (by omega)), h N (by omega)]
theorem r_cn_rm {p q : Nat → Bool} {m : Nat} (hp : p m = true) (hq : q m = false) (h : ∀ i, i ≠ m → q i = p i) : ∀ N, m < N → r_cn q N + 1 = r_cn p N
  | 0, hm => absurd hm (Nat.not_lt_zero _)
  | N + 1, hm => by
    unfold r_cn
    by_cases e : m = N
    · subst e
      rw [r_cn_congr m (fun i hi => h i (by omega)), hp, hq]; rfl
    · have := r_cn_rm hp hq h N (by omega)
      rw [h N (fun z => e z.symm)]
      omega
theorem k_cb_tr {n : ch_N} {a b c : Nat} (h1 : k_cb n a b = true) (h2 : k_cb n b c = true) : k_cb n a c = true := by
  unfold k_cb at *
  by_cases e1 : n 3 a 4 = n 3 b 4
  · rw [if_pos e1] at h1
    by_cases e2 : n 3 b 4 = n 3 c 4
    · rw [if_pos e2] at h2; rw [if_pos (e1.trans e2)]
      by_cases t1 : n 3 a 9 = n 3 b 9
      · rw [if_pos t1] at h1
        by_cases t2 : n 3 b 9 = n 3 c 9
        · rw [if_pos t2] at h2; rw [if_pos (t1.trans t2)]; exact decide_eq_true (Int32.lt_trans (of_decide_eq_true h1) (of_decide_eq_true h2))
        · rw [if_neg t2] at h2; rw [if_neg (by rw [t1]; exact t2), t1]; exact h2
      · rw [if_neg t1] at h1
        by_cases t2 : n 3 b 9 = n 3 c 9
        · rw [if_neg (by rw [← t2]; exact t1), ← t2]; exact h1
        · rw [if_neg t2] at h2
          have h3 := Int32.lt_trans (of_decide_eq_true h1) (of_decide_eq_true h2)
          rw [if_neg (fun z => by rw [z] at h3; exact Int32.lt_irrefl h3)]; exact decide_eq_true h3
    · rw [if_neg e2] at h2; rw [if_neg (by rw [e1]; exact e2), e1]; exact h2
  · rw [if_neg e1] at h1
    by_cases e2 : n 3 b 4 = n 3 c 4
    · rw [if_neg (by rw [← e2]; exact e1)]; exact h1
    · rw [if_neg e2] at h2
      have h3 := of_decide_eq_true h1
      have h4 := of_decide_eq_true h2
      exact absurd (h3.trans h4.symm) e1
theorem k_cb_min (n : ch_N) (P : Nat → Prop) : ∀ N, (∃ i, i < N ∧ P i) → ∃ i, i < N ∧ P i ∧ ∀ j, j < N → P j → ¬ k_cb n j i = true
  | 0, ⟨i, h, _⟩ => absurd h (Nat.not_lt_zero _)
  | N + 1, ⟨i, hi, hP⟩ => by
    by_cases hex : ∃ i, i < N ∧ P i
    · obtain ⟨m, hm, hPm, hmin⟩ := k_cb_min n P N hex
      by_cases hN : P N ∧ k_cb n N m = true
      · refine ⟨N, Nat.lt_succ_self N, hN.1, fun j hj hPj z => ?_⟩
        by_cases e : j = N
        · rw [e, k_cb_self] at z; exact absurd z (by decide)
        · exact hmin j (by omega) hPj (k_cb_tr z hN.2)
      · refine ⟨m, by omega, hPm, fun j hj hPj z => ?_⟩
        by_cases e : j = N
        · subst e; exact hN ⟨hPj, z⟩
        · exact hmin j (by omega) hPj z
    · have e : i = N := Classical.byContradiction fun z => hex ⟨i, by omega, hP⟩
      subst e
      refine ⟨i, Nat.lt_succ_self i, hP, fun j hj hPj z => ?_⟩
      by_cases e : j = i
      · rw [e, k_cb_self] at z; exact absurd z (by decide)
      · exact hex ⟨j, by omega, hPj⟩
def r_rc (n : ch_N) (c : Int32) : Nat := r_cn (fun i => decide (n 3 i 8 = c)) (k_mc n)
theorem k_rq_c (n : ch_N) (c : Int32) : k_rq n c = nI (r_rc n c) := r_cn_kf (fun i => n 3 i 8 = c) (k_mc n)
theorem r_q0 {n : ch_N} (hmc : k_mc n ≤ 12) (c : Int32) : (k_qm n c 0 = -1 ∧ r_rc n c = 0) ∨ ∃ m, m < k_mc n ∧ k_qm n c 0 = nI m ∧ n 3 m 8 = c ∧ 0 < r_rc n c := by
  have hrb : ∀ j, k_rb n j = nI (r_cn (fun i => decide (n 3 i 8 = n 3 j 8 ∧ k_cb n i j = true)) (k_mc n)) := fun j => r_cn_kf (fun i => n 3 i 8 = n 3 j 8 ∧ k_cb n i j = true) (k_mc n)
  rcases kq_spec (fun i => decide (n 3 i 8 = c ∧ k_rb n i = 0)) (k_mc n) (k_mc n) (Nat.le_refl _) with ⟨e, g⟩ | ⟨m, -, hm, hp, e, -⟩
  · refine Or.inl ⟨e, Classical.byContradiction fun hz => ?_⟩
    obtain ⟨i, hi, hic⟩ := (r_cn_pos (fun i => decide (n 3 i 8 = c)) (k_mc n)).mp (Nat.pos_of_ne_zero hz)
    obtain ⟨m, hm, hmc2, hmin⟩ := k_cb_min n (fun i => n 3 i 8 = c) (k_mc n) ⟨i, hi, of_decide_eq_true hic⟩
    refine g m (by omega) hm (decide_eq_true ⟨hmc2, ?_⟩)
    rw [hrb]
    rcases Nat.eq_zero_or_pos (r_cn (fun i => decide (n 3 i 8 = n 3 m 8 ∧ k_cb n i m = true)) (k_mc n)) with z | z
    · rw [z]; rfl
    · obtain ⟨j, hj, hjc⟩ := (r_cn_pos _ _).mp z
      have y := of_decide_eq_true hjc
      exact absurd y.2 (hmin j hj (y.1.trans hmc2))
  · have y := of_decide_eq_true hp
    exact Or.inr ⟨m, hm, e, y.1, (r_cn_pos _ _).mpr ⟨m, hm, decide_eq_true y.1⟩⟩
theorem k_cnt_c (n : ch_N) (a b : Nat) : k_cnt (k_cnt n a) b = k_cnt (k_cnt n b) a := by
  by_cases e : a = b
  · rw [e]
  · funext x y z
    unfold k_cnt
    simp only [nw_at]
    by_cases h1 : x = 7 ∧ y = 0 ∧ z = b
    · obtain ⟨rfl, rfl, rfl⟩ := h1
      simp [show ¬ z = a from fun q => e q.symm]
    · by_cases h2 : x = 7 ∧ y = 0 ∧ z = a
      · obtain ⟨rfl, rfl, rfl⟩ := h2; simp [e]
      · simp [h1, h2]
theorem k_cnt_na {n : ch_N} {kd i t : Nat} {f : Nat → Int32} (h : kd ≠ 7) : k_cnt (na n kd i f) t = na (k_cnt n t) kd i f := by
  funext a b c
  unfold k_cnt
  rw [na_k (show (7 : Nat) ≠ kd from fun z => h z.symm)]
  simp only [nw_at, na_at]
  by_cases h1 : a = 7 ∧ b = 0 ∧ c = t
  · rw [if_pos h1, if_neg (fun z => h (z.1.symm.trans h1.1)), if_pos h1]
  · rw [if_neg h1, if_neg h1]
theorem k_cnt_k (n : ch_N) (t : Nat) {kd : Nat} (h : kd ≠ 7) : (k_cnt n t) kd = n kd := nw_k h
theorem k_cnt_beg (n : ch_N) (i t : Nat) (c : Int32) : k_cnt (k_beg n i c) t = k_beg (k_cnt n t) i c := by
  unfold k_beg k_clr
  rw [k_cnt_na (by decide), k_cnt_na (by decide), k_cnt_nw (by decide), k_cnt_nw (by decide), k_cnt_nw (by decide), k_cnt_nw (by decide)]
theorem k_cnt_bar (n : ch_N) (i u : Nat) (x t : Int32) : k_cnt (k_bar n i x t) u = k_bar (k_cnt n u) i x t := by
  unfold k_bar
  split
  · rfl
  · split
    · exact k_cnt_nw (by decide)
    · rfl
theorem k_cnt_isb (n : ch_N) (i u : Nat) (x t : Int32) : k_isb (k_cnt n u) i x t = k_isb n i x t := by unfold k_isb; rw [k_cnt_k n u (by decide)]
theorem k_cnt_ho (n : ch_N) (i u : Nat) (t : Int32) : k_cnt (k_ho n i t) u = k_ho (k_cnt n u) i t := by
  unfold k_ho
  dsimp only
  rw [k_cnt_isb, k_cnt_k n u (show (0 : Nat) ≠ 7 by decide), k_cnt_k n u (show (3 : Nat) ≠ 7 by decide)]
  have e : (if k_isb n i t (n 0 0 3) = true then k_cnt (k_cnt n u) 1 else k_cnt n u) = k_cnt (if k_isb n i t (n 0 0 3) = true then k_cnt n 1 else n) u := by
    split
    · exact k_cnt_c n u 1
    · rfl
  rw [e]
  generalize (if k_isb n i t (n 0 0 3) = true then k_cnt n 1 else n) = n1 at *
  refine (k_cnt_c _ 0 u).trans (congrArg (fun z => k_cnt z 0) ?_)
  rw [k_cnt_nw (by decide), k_cnt_nw (by decide), k_cnt_nw (by decide), k_cnt_nw (by decide), k_cnt_bar, k_cnt_k n1 u (show (0 : Nat) ≠ 7 by decide)]
  congr 1
  rw [nw_k (by decide), nw_k (by decide), nw_k (by decide), nw_k (by decide), nw_k (by decide), nw_k (by decide), ← k_cnt_bar, k_cnt_k _ u (show (2 : Nat) ≠ 7 by decide)]
theorem k_sv_eq (n : ch_N) (i : Nat) (c : Int32) : k_sv n i c = if n 3 i 4 = 1 then k_ho (k_cnt n 6) i c else k_beg (k_cnt n 6) i c := by
  unfold k_sv
  split
  · exact k_cnt_ho n i 6 c
  · exact k_cnt_beg n i 6 c
theorem k_bar_3 (n : ch_N) (i : Nat) (x t : Int32) : (k_bar n i x t) 3 = n 3 := by
  unfold k_bar
  split
  · rfl
  · split
    · exact nw_k (by decide)
    · rfl
theorem k_ho_38 (n : ch_N) (i j : Nat) (t : Int32) : (k_ho n i t) 3 j 8 = if j = i then -1 else n 3 j 8 := by
  unfold k_ho
  try dsimp only
  rw [k_cnt_k _ 0 (by decide), nw_k (by decide), nw_at]
  by_cases e : j = i
  · rw [if_pos ⟨rfl, e, rfl⟩, if_pos e]
  · rw [if_neg (fun z => e z.2.1), if_neg e, nw_at, if_neg (fun z => e z.2.1), nw_at, if_neg (fun z => e z.2.1), k_bar_3]
    split
    · rw [k_cnt_k _ 1 (by decide)]
    · rfl
theorem k_beg_38 (n : ch_N) (i j : Nat) (t : Int32) : (k_beg n i t) 3 j 8 = if j = i then -1 else n 3 j 8 := by
  unfold k_beg k_clr
  rw [na_k (by decide), na_k (by decide), nw_at]
  by_cases e : j = i
  · rw [if_pos ⟨rfl, e, rfl⟩, if_pos e]
  · rw [if_neg (fun z => e z.2.1), if_neg e, nw_at, if_neg (fun z => e z.2.1), nw_at, if_neg (fun z => e z.2.1), nw_at, if_neg (fun z => e z.2.1)]
theorem k_sv_38 (n : ch_N) (i j : Nat) (c : Int32) : (k_sv n i c) 3 j 8 = if j = i then -1 else n 3 j 8 := by
  rw [k_sv_eq]
  split
  · rw [k_ho_38, k_cnt_k _ 6 (by decide)]
  · rw [k_beg_38, k_cnt_k _ 6 (by decide)]
theorem r_rc_sv {n : ch_N} {m c : Nat} (hm : m < k_mc n) (hc : c < 8) (h8 : n 3 m 8 = nI c) : r_rc (k_sv n m (nI c)) (nI c) + 1 = r_rc n (nI c) := by
  unfold r_rc
  rw [show k_mc (k_sv n m (nI c)) = k_mc n by unfold k_mc; rw [k_sv_0]]
  refine r_cn_rm (m := m) (decide_eq_true h8) (decide_eq_false ?_) (fun i hi => ?_) _ hm
  · rw [k_sv_38, if_pos rfl]
    exact fun z => nI_nm1 (a := c) (by omega) z.symm
  · rw [k_sv_38, if_neg hi]
theorem k_svL_s {n : ch_N} {c m j : Nat} (hf : k_free n (nI c) = true) (hq : k_qm n (nI c) 0 = nI m) (hm : m < 12) : k_svL (nI c) (j + 1) n = k_svL (nI c) j (k_sv n m (nI c)) := by
  show (if k_free n (nI c) = true then (if k_qm n (nI c) 0 = -1 then n else k_svL (nI c) j (k_sv n (k_ix 12 12 (k_qm n (nI c) 0)) (nI c))) else n) = _
  rw [if_pos hf, hq, if_neg (nI_nm1 (by omega)), k_mob hm]
/-! THE REFERENCE: a handover considered -/
def r_wq (μ : ch_M) (a b : Nat → Int32) (x : Int32) (w : Nat → Int32) : ch_M := r_wr (up μ 16 (r_pq (μ 16) a b x)) w
theorem r_wq_at (μ : ch_M) (a b : Nat → Int32) (x : Int32) (w : Nat → Int32) : r_wq μ a b x w 16 23 0 = w := r_wr_at _ _
theorem r_wr_wq (μ : ch_M) (a b : Nat → Int32) (x : Int32) (w w' : Nat → Int32) : r_wr (r_wq μ a b x w) w' = r_wq μ a b x w' := r_wr_wr _ _ _
theorem r_wq_put (μ : ch_M) (a b : Nat → Int32) (x : Int32) (w : Nat → Int32) (j : Nat) (v : Int32) : up (r_wq μ a b x w) 16 (nw (r_wq μ a b x w 16) 23 0 j v) = r_wq μ a b x (up w j v) := r_wr_put _ _ _ _
theorem r_wq_0 (μ : ch_M) (a b : Nat → Int32) (x : Int32) : up μ 16 (r_pq (μ 16) a b x) = r_wq μ a b x (μ 16 23 0) := by
  unfold r_wq r_wr
  rw [up_s, up_up]
  congr 1
  have e : r_pq (μ 16) a b x 23 0 = μ 16 23 0 := by rw [r_pq_23]
  rw [← e, na_id]
theorem r_wq_16 (μ : ch_M) (a b : Nat → Int32) (x : Int32) (w : Nat → Int32) : r_wq μ a b x w 16 = na (r_pq (μ 16) a b x) 23 0 w := by unfold r_wq r_wr; rw [up_s, up_s]
theorem r_wq_28 (μ : ch_M) (a b : Nat → Int32) (x : Int32) (w : Nat → Int32) : r_wq μ a b x w 16 28 0 = a := by rw [r_wq_16, na_k (by decide), r_pq_a]
theorem r_wq_29 (μ : ch_M) (a b : Nat → Int32) (x : Int32) (w : Nat → Int32) : r_wq μ a b x w 16 29 0 = b := by rw [r_wq_16, na_k (by decide), r_pq_b]
theorem r_wq_x (μ : ch_M) (a b : Nat → Int32) (x : Int32) (w : Nat → Int32) : r_wq μ a b x w 16 22 0 10 = x := by rw [r_wq_16, na_k (by decide), r_pq_x]
theorem r_pq_na (p : ch_N) (a b : Nat → Int32) (x : Int32) (w : Nat → Int32) : r_pq (na p 23 0 w) a b x = na (r_pq p a b x) 23 0 w := by
  funext u i j
  unfold r_pq
  simp only [nw_at, na_at]
  by_cases h1 : u = 23 ∧ i = 0
  · obtain ⟨rfl, rfl⟩ := h1; simp
  · simp only [if_neg h1]
theorem r_pq_pq (p : ch_N) (a b a' b' : Nat → Int32) (x x' : Int32) : r_pq (r_pq p a b x) a' b' x' = r_pq p a' b' x' := by
  funext u i j
  unfold r_pq
  simp only [nw_at, na_at]
  by_cases h1 : u = 22 ∧ i = 0 ∧ j = 10
  · rw [if_pos h1, if_pos h1]
  · simp only [if_neg h1]
    by_cases h2 : u = 29 ∧ i = 0
    · simp only [if_pos h2]
    · simp only [if_neg h2]
      by_cases h3 : u = 28 ∧ i = 0
      · simp only [if_pos h3]
      · simp only [if_neg h3]
theorem r_wq_pq (μ : ch_M) (a b a' b' : Nat → Int32) (x x' : Int32) (w : Nat → Int32) : up (r_wq μ a b x w) 16 (r_pq (r_wq μ a b x w 16) a' b' x') = r_wq μ a' b' x' w := by
  rw [r_wq_16, r_pq_na, r_pq_pq]
  unfold r_wq r_wr
  rw [up_up, up_s, up_up, up_up]
theorem r_wq_wq (μ : ch_M) (a b a' b' : Nat → Int32) (x x' : Int32) (w w' : Nat → Int32) : r_wq (r_wq μ a b x w) a' b' x' w' = r_wq μ a' b' x' w' := by
  show r_wr (up (r_wq μ a b x w) 16 (r_pq (r_wq μ a b x w 16) a' b' x')) w' = _
  rw [r_wq_pq, r_wr_wq]
theorem r_wq_wr (μ : ch_M) (w : Nat → Int32) : r_wr μ w = r_wq μ (μ 16 28 0) (μ 16 29 0) (μ 16 22 0 10) w := by unfold r_wq; rw [r_pq_id, up_id]
theorem r_wq_id (μ : ch_M) : μ = r_wq μ (μ 16 28 0) (μ 16 29 0) (μ 16 22 0 10) (μ 16 23 0) := by rw [← r_wq_wr, r_wr_id]
def r_Y (n : ch_N) (S : ch_S) (μ : ch_M) : Option Value → ch_S → ch_M → Prop := ch_FX none S (fun μ' => ∃ a b x w', μ' = r_wq μ a b x w' ∧ r_N n w')
theorem k_ins_in {q : ch_N} {c v : Int32} {t : Nat} (ht : t < 8) (h2 : q 17 0 0 = nI t) : (k_ins q c v) 17 0 0 = nI (t + 1) ∧ (k_ins q c v) 17 0 1 = q 17 0 1 ∧ ∀ j, j < t + 1 → (k_ins q c v) 18 0 j = c ∨ ∃ i, i < t ∧ (k_ins q c v) 18 0 j = q 18 0 i := by
  have hP := k_sp_le (q 19 0) v t
  have ect : Int32.toNatClampNeg (q 17 0 0) = t := by rw [h2]; exact nI_clamp (by omega)
  have hlt : q 17 0 0 < 8 := by rw [h2]; exact nI_lt (b := 8) ht (by decide)
  refine ⟨?_, ?_, fun j hj => ?_⟩
  · unfold k_ins
    rw [if_pos hlt, nw_at, if_pos ⟨rfl, rfl, rfl⟩, h2, nI_1]
  · unfold k_ins
    rw [if_pos hlt]
    simp [nw_at, na_at]
  · have e18 : k_ins q c v 18 0 j = up (k_sh (q 18 0) (k_sp (q 19 0) v t) t) (k_sp (q 19 0) v t) c j := by
      unfold k_ins up
      rw [if_pos hlt, ect]
      simp [nw_at, na_at]
    rw [e18]
    generalize k_sp (q 19 0) v t = P at *
    by_cases e : j = P
    · subst e; rw [up_s]; exact Or.inl rfl
    · rw [up_n e]
      unfold k_sh
      by_cases hs : P < j ∧ j ≤ t
      · rw [if_pos hs]; exact Or.inr ⟨j - 1, by omega, rfl⟩
      · rw [if_neg hs]; exact Or.inr ⟨j, by omega, rfl⟩
theorem k_rkL_in {n : ch_N} {em : Int32} {i : Nat} {q0 : ch_N} (h0 : q0 17 0 0 = 0) : ∀ N, N ≤ 8 → (k_rkL n em i N q0) 17 0 1 = q0 17 0 1 ∧ ∃ t, t ≤ N ∧ (k_rkL n em i N q0) 17 0 0 = nI t ∧ ∀ j, j < t → ∃ c, c < N ∧ (k_rkL n em i N q0) 18 0 j = nI c ∧ 0 < k_mg n em i (nI c)
  | 0, _ => ⟨rfl, 0, Nat.le_refl _, h0, fun j hj => absurd hj (Nat.not_lt_zero _)⟩
  | N + 1, hN => by
    obtain ⟨g1, t, g2, g3, g4⟩ := k_rkL_in h0 N (by omega)
    have e : k_rkL n em i (N + 1) q0 = if 0 < k_mg n em i (nI N) then k_ins (k_rkL n em i N q0) (nI N) (k_mg n em i (nI N)) else k_rkL n em i N q0 := rfl
    by_cases hp : 0 < k_mg n em i (nI N)
    · rw [e, if_pos hp]
      obtain ⟨k1, k2, k3⟩ := k_ins_in (c := nI N) (v := k_mg n em i (nI N)) (show t < 8 by omega) g3
      refine ⟨by rw [k2, g1], t + 1, by omega, k1, fun j hj => ?_⟩
      rcases k3 j hj with z | ⟨u, hu, z⟩
      · exact ⟨N, by omega, z, hp⟩
      · obtain ⟨c, hc, gc, gm⟩ := g4 u hu
        exact ⟨c, by omega, by rw [z, gc], gm⟩
    · rw [e, if_neg hp]
      refine ⟨g1, t, by omega, g3, fun j hj => ?_⟩
      obtain ⟨c, hc, gc, gm⟩ := g4 j hj
      exact ⟨c, by omega, gc, gm⟩
theorem k_mg_rel {n : ch_N} {em : Int32} {i : Nat} {c : Int32} (h : 0 < k_mg n em i c) : ¬ n 2 (k_rx (n 3 i 5) c) 0 = 0 := fun z => by
  unfold k_mg at h
  rw [if_pos z] at h
  exact absurd h (by decide)
theorem k_rank_in {n q : ch_N} {i : Nat} (hcc : k_cc n ≤ 8) : ∃ t, t ≤ k_cc n ∧ (k_rank n q i) 17 0 0 = nI t ∧ (∀ j, j < t → ∃ c, c < k_cc n ∧ (k_rank n q i) 18 0 j = nI c ∧ ¬ n 2 (k_rx (n 3 i 5) (nI c)) 0 = 0) ∧ (0 < t → ¬ k_avg n i (n 3 i 5) = -1 ∧ (k_rank n q i) 17 0 1 = k_em n i) := by
  unfold k_rank
  by_cases h : k_avg n i (n 3 i 5) = -1
  · rw [if_pos h]
    exact ⟨0, Nat.zero_le _, by simp [nw_at]; rfl, fun j hj => absurd hj (Nat.not_lt_zero _), fun z => absurd z (Nat.lt_irrefl 0)⟩
  · rw [if_neg h]
    obtain ⟨g1, t, g2, g3, g4⟩ := k_rkL_in (n := n) (em := k_em n i) (i := i) (q0 := nw (nw q 17 0 0 0) 17 0 1 (k_em n i)) (by simp [nw_at]) (k_cc n) hcc
    refine ⟨t, g2, g3, fun j hj => ?_, fun _ => ⟨h, by rw [g1, nw_at, if_pos ⟨rfl, rfl, rfl⟩]⟩⟩
    obtain ⟨c, hc, gc, gm⟩ := g4 j hj
    exact ⟨c, hc, gc, k_mg_rel gm⟩
theorem k_car_c {q : ch_N} {j t : Nat} (h : q 17 0 0 = nI t) (hj : j < t) (ht : t ≤ 8) : k_car q (nI j) = q 18 0 j := by
  unfold k_car
  rw [if_neg (nI_pos (by omega)), h, if_pos (nI_lt hj (by omega)), if_pos (show nI j < 8 from nI_lt (b := 8) (by omega) (by decide)), nI_clamp (by omega)]
theorem k_em_congr {n n' : ch_N} {i : Nat} (h1 : n' 1 = n 1) (h3 : n' 3 = n 3) (h4 : n' 4 = n 4) (h5 : n' 5 = n 5) : k_em n' i = k_em n i := by
  have e : ∀ a q, k_sum n' i a q = k_sum n i a q := fun a q => by
    induction q with
    | zero => rfl
    | succ q ih => show k_sum n' i a q + n' 4 i (a + q) = k_sum n i a q + n 4 i (a + q); rw [ih, h4]
  unfold k_em k_avg k_rep
  rw [h1, h3, h5, e]
theorem k_c1_s {q n : ch_N} {i N j : Nat} {c : Int32} {idx : Nat} (hi : N - (j + 1) = idx) (hc : k_car q (nI idx) = c) : k_c1 q i N (j + 1) n = if k_free n c = true then (true, k_ho n i c) else k_c1 q i N j (k_ref n i c) := by
  subst hi; subst hc; rfl
theorem k_c2_s {q n : ch_N} {i N j : Nat} {c : Int32} {idx : Nat} (hi : N - (j + 1) = idx) (hc : k_car q (nI idx) = c) : k_c2 q i N (j + 1) n = if k_place n c = true then k_mrq n i c (n 0 0 3) else k_c2 q i N j n := by
  subst hi; subst hc; rfl
theorem k_ch_1 {n q q1 : ch_N} {i t : Nat} (hq : q1 = k_rank n q i) (ht : q1 17 0 0 = nI t) (htb : t ≤ 8) : (k_ch n q i).1 = if (k_c1 q1 i t t n).1 = true then (k_c1 q1 i t t n).2 else if q1 17 0 1 = 0 then (k_c1 q1 i t t n).2 else k_c2 q1 i t t (k_c1 q1 i t t n).2 := by
  unfold k_ch
  dsimp only
  rw [← hq, ht, nI_clamp (by omega)]
/-- a talking mobile's request made -/
theorem r_N_rqT {n : ch_N} {w : Nat → Int32} {m c : Nat} (h : r_N n w) (hm : m < k_mc n) (ht : n 3 m 4 = 1) (hc : c < k_cc n) (hrel : ¬ n 2 (k_rx (n 3 m 5) (nI c)) 0 = 0) : r_N (k_mrq n m (nI c) (n 0 0 3)) (r_rq w m (nI c) 0 (w 3)) := by
  have hc8 := r_c8 h hc
  have hw3 := h.1 3 (by decide)
  obtain ⟨a1, a2, a3, a4, a5, a6, a7, a8, a9, a10, a11, a12, a13, a14⟩ := h.2.2.2.2.1 m hm
  have hwf := k_mrq_wf h.2.2.2.2.2 m (nI c) (n 0 0 3)
  have e3 : ∀ j, (k_mrq n m (nI c) (n 0 0 3)) 3 m j = if j = 9 then n 0 0 3 else if j = 8 then nI c else n 3 m j := by
    intro j
    unfold k_mrq
    simp only [nw_at]
    by_cases g9 : j = 9
    · subst g9; simp
    by_cases g8 : j = 8
    · subst g8; simp
    simp [g9, g8]
  have ek : ∀ kd, kd ≠ 3 → (k_mrq n m (nI c) (n 0 0 3)) kd = n kd := fun kd h3 => by unfold k_mrq; rw [nw_k h3, nw_k h3]
  have hoff : ∀ kd i, i ≠ m → (k_mrq n m (nI c) (n 0 0 3)) kd i = n kd i := fun kd i hi => by funext j; unfold k_mrq; simp [nw_at, hi]
  generalize k_mrq n m (nI c) (n 0 0 3) = n' at *
  have ec : k_cc n' = k_cc n := by unfold k_cc; rw [ek 0 (by decide)]
  have ew : ∀ i, r_rq w m (nI c) 0 (w 3) i = if i = 210 + 91 * m + 10 then w 3 else if i = 210 + 91 * m + 9 then 0 else if i = 210 + 91 * m + 8 then nI c else w i := fun i => rfl
  have s4 : n' 3 m 4 = 1 := by rw [e3, if_neg (by decide), if_neg (by decide), ht]
  have s8 : n' 3 m 8 = nI c := by rw [e3, if_neg (by decide), if_pos rfl]
  have s9 : n' 3 m 9 = n 0 0 3 := by rw [e3, if_pos rfl]
  have s5 : n' 3 m 5 = n 3 m 5 := by rw [e3, if_neg (by decide), if_neg (by decide)]
  refine r_N_mob h hm (fun kd h3 _ _ _ => ek kd h3) hoff (fun j hj => by rw [ew, if_neg (by omega), if_neg (by omega), if_neg (by omega)]) ?_ hwf
  unfold r_M
  rw [s4, s8, s9, s5, ek 2 (by decide), ek 4 (by decide), ek 5 (by decide), ek 6 (by decide), ec]
  refine ⟨fun f hf => ?_, by rw [ew, if_neg (by omega), if_neg (by omega), if_pos rfl], fun _ => ⟨?_, fun d hd => ?_⟩, fun _ => ⟨by rw [ew, if_pos rfl, hw3], by rw [ew, if_neg (by omega), if_pos rfl]; rfl⟩, Or.inr (Or.inl rfl), fun _ => a6 ht, fun z => absurd rfl z, fun z => absurd z (by decide), fun z => absurd z (by decide), Or.inr ⟨c, hc, rfl⟩, fun _ => ?_, fun _ d hd z => ?_, ?_, fun _ => a14 ht⟩
  · rw [ew, if_neg (by omega), if_neg (by omega), if_neg (by omega), e3, if_neg (by omega), if_neg (by omega)]; exact a1 f hf
  · rw [ew, if_neg (by omega), if_neg (by omega), if_neg (by omega), e3, if_neg (by omega), if_neg (by omega)]; exact (a3 ht).1
  · obtain ⟨b1, b2, b3⟩ := (a3 ht).2 d hd
    refine ⟨by rw [ew, if_neg (by omega), if_neg (by omega), if_neg (by omega)]; exact b1, by rw [ew, if_neg (by omega), if_neg (by omega), if_neg (by omega)]; exact b2, fun k hk => by rw [ew, if_neg (by omega), if_neg (by omega), if_neg (by omega)]; exact b3 k hk⟩
  · rw [e3, if_neg (by omega), if_neg (by omega)]; exact a11 (by rw [ht]; decide)
  · have := (nI_eq (by omega) (by omega)).mp z
    subst this
    exact hrel
  · rw [e3, e3, if_neg (by omega), if_neg (by omega), if_neg (by omega), if_neg (by omega)]; exact a13
/-! THE REFERENCE: a tick -/
theorem r_mc0 {n n' : ch_N} (h : n' 0 = n 0) : k_mc n' = k_mc n := by unfold k_mc; rw [h]
theorem r_cc0 {n n' : ch_N} (h : n' 0 = n 0) : k_cc n' = k_cc n := by unfold k_cc; rw [h]
def r_P (n : ch_N) (J : Nat) : Prop := ∀ i, i < J → n 3 i 4 = 1 → ∀ s, n 3 i 5 = nI s → s < 8 → 0 < n 5 i s
theorem r_P_step {n n' : ch_N} {J : Nat} (h : r_P n J) (hs : ∀ i, i < J → n' 3 i 4 = 1 → n 3 i 4 = 1 ∧ n' 3 i 5 = n 3 i 5 ∧ ∀ s, n' 5 i s = n 5 i s) : r_P n' J := fun i hi ht s h5 hs8 => by
  obtain ⟨g1, g2, g3⟩ := hs i hi ht
  rw [g3]
  exact h i hi g1 s (by rw [← g2]; exact h5) hs8
theorem k_ms1_5 {m c s : Nat} {n : ch_N} (hc : c < 8) (hcs : c ≠ s) : (k_ms1 m c n) 5 m s = n 5 m s := by
  unfold k_ms1
  split
  · unfold k_add k_drp
    split
    · rw [nw_at, if_neg (fun z => hcs z.2.2.symm), nw_k (by decide)]
    · rw [nw_at, if_neg (fun z => hcs z.2.2.symm), nw_k (by decide), na_k (by decide)]
  · rw [k_crp_c hc, nw_at, if_neg (fun z => hcs z.2.2.symm)]
theorem k_ms1_off {m c i : Nat} {n : ch_N} (hc : c < 8) (hi : i ≠ m) (kd : Nat) : (k_ms1 m c n) kd i = n kd i := by
  funext j
  unfold k_ms1
  split
  · unfold k_add k_drp
    split
    · simp [nw_at, hi]
    · simp [nw_at, na_at, hi]
  · rw [k_crp_c hc, nw_at, if_neg (fun z => hi z.2.1)]
theorem k_msL_off {m i : Nat} (n : ch_N) (hi : i ≠ m) (kd : Nat) : ∀ N, N ≤ 8 → (kf (k_ms1 m) N n) kd i = n kd i
  | 0, _ => rfl
  | N + 1, h => by rw [kf_s, k_ms1_off (by omega) hi, k_msL_off n hi kd N (by omega)]
theorem k_msL_wf {m : Nat} (n : ch_N) (hm : m < 13) (h : k_wf n) : ∀ N, N ≤ 8 → k_wf (kf (k_ms1 m) N n)
  | 0, _ => h
  | N + 1, hN => by rw [kf_s]; exact k_ms1_wf hm (by omega) _ (k_msL_wf n hm h N (by omega))
theorem k_msL_p {m s : Nat} (n : ch_N) (hm : m < 13) (hwf : k_wf n) (h5 : n 3 m 5 = nI s) (hs : s < 8) : ∀ N, N ≤ 8 → s < N → 0 < (kf (k_ms1 m) N n) 5 m s
  | 0, _, h => absurd h (Nat.not_lt_zero _)
  | N + 1, hN, h => by
    rw [kf_s]
    by_cases e : N = s
    · subst e
      have hw := k_msL_wf n hm hwf N (by omega)
      have e3 : (kf (k_ms1 m) N n) 3 = n 3 := k_msL_k m N n (by decide) (by decide)
      generalize kf (k_ms1 m) N n = n' at *
      have hb := (hw.2.2.2.2.2 m N hm hs)
      have hb8 := hb.2.1
      unfold k_ms1
      rw [if_pos (Or.inl (by rw [e3]; exact h5.symm))]
      unfold k_add k_drp
      split
      · rw [nw_at, if_pos ⟨rfl, rfl, rfl⟩, nI_1]; exact nI_lt (a := 0) (Nat.succ_pos _) (by omega)
      · rw [nw_at, if_pos ⟨rfl, rfl, rfl⟩, nI_1]; exact nI_lt (a := 0) (Nat.succ_pos _) (by omega)
    · rw [k_ms1_5 (by omega) e]
      exact k_msL_p n hm hwf h5 hs N (by omega) (by omega)
theorem r_P_ms {n : ch_N} {w : Nat → Int32} {m : Nat} (h : r_N n w) (hm : m < k_mc n) (hP : r_P n m) : r_P (s_ms m n) (m + 1) := by
  have hm12 := r_m12 h hm
  have hcc := h.2.2.2.2.2.2.1
  intro i hi ht s h5 hs8
  unfold s_ms at *
  by_cases e : i = m
  · subst e
    by_cases g : n 3 i 4 = 1
    · rw [if_pos g] at ht h5 ⊢
      unfold k_ms at *
      rw [k_msL_k i _ n (by decide) (by decide)] at h5
      obtain ⟨s', hs', e'⟩ := r_sv h hm g
      have : s' = s := (nI_eq (by omega) (by omega)).mp (e'.symm.trans h5)
      exact k_msL_p n (by omega) h.2.2.2.2.2 h5 hs8 (k_cc n) hcc (by omega)
    · rw [if_neg g] at ht; exact absurd ht g
  · by_cases g : n 3 m 4 = 1
    · rw [if_pos g] at ht h5 ⊢
      unfold k_ms at *
      rw [k_msL_off n e _ _ hcc] at ht h5 ⊢
      exact hP i (by omega) ht s h5 hs8
    · rw [if_neg g] at ht h5 ⊢
      exact hP i (by omega) ht s h5 hs8
theorem k_idle_3 (n : ch_N) (m i : Nat) : (k_idle n m) 3 i 4 = if i = m then 0 else n 3 i 4 := by
  unfold k_idle k_clr
  rw [na_k (by decide), na_k (by decide)]
  by_cases e : i = m
  · subst e; simp [nw_at]
  · simp [nw_at, e]
theorem k_idle_off (n : ch_N) {m i : Nat} (hi : i ≠ m) (kd : Nat) : (k_idle n m) kd i = n kd i := by
  funext j; unfold k_idle k_clr; simp [nw_at, na_at, hi]
theorem k_cnt_off (n : ch_N) (t i : Nat) {kd : Nat} (hk : kd ≠ 7) : (k_cnt n t) kd i = n kd i := by rw [k_cnt_k n t hk]
theorem r_P_fin {n : ch_N} {m J : Nat} (hP : r_P n J) : r_P (s_fin m n) J := by
  unfold s_fin
  split
  · rename_i hm
    rw [k_fin_eq]
    split
    · exact r_P_step hP (fun i hi ht => ⟨by rw [nw_at, if_neg (by omega)] at ht; exact ht, by rw [nw_at, if_neg (by omega)], fun s => by rw [nw_k (by decide)]⟩)
    · refine r_P_step hP (fun i hi ht => ?_)
      rw [k_cnt_off _ _ _ (by decide), k_idle_3] at ht
      by_cases e : i = m
      · rw [if_pos e] at ht; exact absurd ht (by decide)
      · rw [if_neg e] at ht
        exact ⟨ht, by rw [k_cnt_off _ _ _ (by decide), k_idle_off _ e], fun s => by rw [k_cnt_off _ _ _ (by decide), k_idle_off _ e]⟩
  · exact hP
theorem r_P_dr {n : ch_N} {m J : Nat} (hP : r_P n J) : r_P (s_dr m n) J := by
  unfold s_dr
  split
  · rename_i hm
    obtain ⟨v, hv⟩ : ∃ z, z = (if k_avg n m (n 3 m 5) < n 0 0 8 then n 3 m 7 + 1 else 0) := ⟨_, rfl⟩
    rw [k_dr_eq n m v hv]
    split
    · exact r_P_step hP (fun i hi ht => ⟨by rw [nw_at, if_neg (by omega)] at ht; exact ht, by rw [nw_at, if_neg (by omega)], fun s => by rw [nw_k (by decide)]⟩)
    · refine r_P_step hP (fun i hi ht => ?_)
      rw [k_cnt_off _ _ _ (by decide), k_idle_3] at ht
      by_cases e : i = m
      · rw [if_pos e] at ht; exact absurd ht (by decide)
      · rw [if_neg e] at ht
        exact ⟨ht, by rw [k_cnt_off _ _ _ (by decide), k_idle_off _ e], fun s => by rw [k_cnt_off _ _ _ (by decide), k_idle_off _ e]⟩
  · exact hP
theorem r_xy (v : Int32) : ¬ k_max 0 (k_min 999 v) < 0 ∧ ¬ 999 < k_max 0 (k_min 999 v) := by
  unfold k_max k_min
  by_cases h1 : v < 999
  · rw [if_pos h1]
    by_cases h2 : 0 < v
    · rw [if_pos h2]; exact ⟨fun z => Int32.lt_irrefl (Int32.lt_trans z h2), fun z => Int32.lt_irrefl (Int32.lt_trans z h1)⟩
    · rw [if_neg h2]; exact ⟨by decide, by decide⟩
  · rw [if_neg h1]; exact ⟨by decide, by decide⟩
theorem r_N_mv {n : ch_N} {w : Nat → Int32} {m : Nat} (h : r_N n w) (hm : m < k_mc n) : r_N (s_mv m n) (up (up w (210 + 91 * m + 0) (k_max 0 (k_min 999 (n 3 m 0 + n 3 m 2)))) (210 + 91 * m + 1) (k_max 0 (k_min 999 (n 3 m 1 + n 3 m 3)))) := by
  have e : s_mv m n = nw (nw n 3 m 0 (k_max 0 (k_min 999 (n 3 m 0 + n 3 m 2)))) 3 m 1 (k_max 0 (k_min 999 (n 3 m 1 + n 3 m 3))) := by
    unfold s_mv k_mv
    dsimp only
    rw [nw_at, if_neg (by omega), nw_at, if_neg (by omega)]
  rw [e]
  exact r_N_set (f := 1) (r_N_set (f := 0) h hm (by omega) (fun z => by omega) (fun _ => r_xy _)) (by rw [r_mc0 (nw_k (by decide))]; exact hm) (by omega) (fun z => by omega) (fun _ => r_xy _)
theorem r_R_congr' {n n' : ch_N} {w w' : Nat → Int32} (h : r_R n w) (h1 : w' 1 = w 1) (hw : ∀ j, 90 ≤ j → w' j = w j) (h2 : n' 2 = n 2) (h0 : k_cc n' = k_cc n) : r_R n' w' := by
  obtain ⟨⟨b1, b2⟩, b3, b4, b5, b6⟩ := h
  unfold r_R
  rw [h2, h0, h1]
  refine ⟨⟨b1, b2⟩, fun r hr => ?_, fun r t hr ht e1 e2 => ?_, fun a b ha hb hz => ?_, b6⟩
  · obtain ⟨a, b, g⟩ := b3 r hr
    refine ⟨a, b, ?_⟩
    rw [hw _ (by omega), hw _ (by omega), hw _ (by omega), hw _ (by omega), hw _ (by omega)]
    exact g
  · rw [hw _ (by omega), hw (90 + 5 * t) (by omega)] at e1
    rw [hw _ (by omega), hw (90 + 5 * t + 1) (by omega)] at e2
    exact b4 r t hr ht e1 e2
  · obtain ⟨r, hr, g1, g2⟩ := b5 a b ha hb hz
    exact ⟨r, hr, by rw [hw _ (by omega)]; exact g1, by rw [hw _ (by omega)]; exact g2⟩
/-- a cell's congested ticks -/
theorem r_N_cg {n : ch_N} {w : Nat → Int32} {c : Nat} {v : Int32} (h : r_N n w) (hc : c < k_cc n) : r_N (nw n 1 c 8 v) (up w (18 + 9 * c + 8) v) := by
  have hc8 := r_c8 h hc
  have hcc8 := h.2.2.2.2.2.2.1
  have h24 := r_24 h
  have ek : ∀ kd, kd ≠ 1 → nw n 1 c 8 v kd = n kd := fun kd hk => nw_k hk
  have ec : k_cc (nw n 1 c 8 v) = k_cc n := r_cc0 (ek 0 (by decide))
  have em : k_mc (nw n 1 c 8 v) = k_mc n := r_mc0 (ek 0 (by decide))
  have hM : ∀ i, i < k_mc n → r_M (nw n 1 c 8 v) (up w (18 + 9 * c + 8) v) i := fun i hi => r_M_same h hi (fun f hf => up_n (by omega)) (fun kd hk => ek kd (by omega)) (fun j => by rw [ek 2 (by decide)])
  obtain ⟨a1, ⟨a2, aK1, aK2⟩, a3, aR, aM, aW⟩ := h
  refine ⟨fun j hj => by rw [up_n (by omega), ek 0 (by decide)]; exact a1 j hj, ⟨fun t ht => by rw [up_n (by omega), ek 7 (by decide)]; exact a2 t ht, by rw [ek 0 (by decide)]; exact aK1, fun d hd => ?_⟩, fun d f hd hf => ?_, r_R_congr' aR ?_ ?_ ?_ ec, fun i hi => hM i (by rw [em] at hi; exact hi), wf_same aW (ek 0 (by decide)) (ek 5 (by decide))⟩
  · rw [ec] at hd
    have e : ∀ f, f < 8 → nw n 1 c 8 v 1 d f = n 1 d f := fun f hf => by rw [nw_at, if_neg (by omega)]
    rw [e 0 (by decide), e 1 (by decide), e 2 (by decide), e 3 (by decide)]
    exact aK2 d hd
  · rw [ec] at hd
    by_cases e : d = c ∧ f = 8
    · obtain ⟨rfl, rfl⟩ := e
      rw [up_s, nw_at, if_pos ⟨rfl, rfl, rfl⟩]
    · rw [up_n (by omega), nw_at, if_neg (fun z => e ⟨z.2.1, z.2.2⟩)]
      exact a3 d f hd hf
  · exact up_n (by omega)
  · exact fun j hj => up_n (by omega)
  · exact ek 2 (by decide)
theorem r_N_clk {n : ch_N} {w : Nat → Int32} {v : Int32} (h : r_N n w) (h0 : ¬ v < 0) (h1 : ¬ 100000 < v) : r_N (nw n 0 0 3 v) (up w 3 v) := by
  have hcc8 := h.2.2.2.2.2.2.1
  have h24 := r_24 h
  have ek : ∀ kd, kd ≠ 0 → nw n 0 0 3 v kd = n kd := fun kd hk => nw_k hk
  have e0 : ∀ j, j ≠ 3 → nw n 0 0 3 v 0 0 j = n 0 0 j := fun j hj => by rw [nw_at, if_neg (fun z => hj z.2.2)]
  have ec : k_cc (nw n 0 0 3 v) = k_cc n := by unfold k_cc; rw [e0 0 (by decide)]
  have em : k_mc (nw n 0 0 3 v) = k_mc n := by unfold k_mc; rw [e0 2 (by decide)]
  have h58 : ∀ i c, i < 13 → c < 8 → Int32.toNatClampNeg (n 5 i c) ≤ 8 := fun i c hi hc => (r_c58 h hi hc).2
  have hM : ∀ i, i < k_mc n → r_M (nw n 0 0 3 v) (up w 3 v) i := fun i hi => r_M_congr (h.2.2.2.2.1 i hi) (fun f hf => up_n (by omega)) (by rw [ek 3 (by decide)]) (by rw [ek 4 (by decide)]) (by rw [ek 5 (by decide)]) (by rw [ek 6 (by decide)]) ec (fun j => by rw [ek 2 (by decide)]) (fun c hc => h58 i c (by have := r_m12 h hi; omega) hc)
  obtain ⟨a1, ⟨a2, ⟨k1, k2, k3, k4, k5⟩, aK2⟩, a3, aR, aM, aW⟩ := h
  refine ⟨fun j hj => ?_, ⟨fun t ht => by rw [up_n (by omega), ek 7 (by decide)]; exact a2 t ht, ⟨?_, ?_, ?_, ?_, ?_⟩, fun d hd => by rw [ek 1 (by decide)]; exact aK2 d (by rw [ec] at hd; exact hd)⟩, fun d f hd hf => by rw [up_n (by omega), ek 1 (by decide)]; exact a3 d f (by rw [ec] at hd; exact hd) hf, r_R_congr' aR (up_n (by omega)) (fun j hj => up_n (by omega)) (ek 2 (by decide)) ec, fun i hi => hM i (by rw [em] at hi; exact hi), nw03_wf aW v⟩
  · by_cases e : j = 3
    · subst e; rw [up_s, nw_at, if_pos ⟨rfl, rfl, rfl⟩]
    · rw [up_n e, e0 j e]; exact a1 j hj
  · rw [nw_at, if_pos ⟨rfl, rfl, rfl⟩]; exact h0
  · rw [nw_at, if_pos ⟨rfl, rfl, rfl⟩]; exact h1
  · rw [e0 5 (by decide)]; exact k3
  · rw [e0 0 (by decide)]; exact k4
  · rw [e0 2 (by decide)]; exact k5
theorem r_clk_nn {x : Int32} (h0 : ¬ x < 0) (h2 : ¬ 100000 < x) : ¬ x + 1 < 0 := by
  obtain ⟨j, hj, rfl⟩ := r_bd (k := 100000) (by decide) h0 h2
  rw [nI_1]
  exact nI_pos (by omega)

/-! THE REFERENCE: ticks, copies of rows, the history -/
theorem k_t1_0 (n : ch_N) : (k_t1 n) 0 = n 0 := by
  unfold k_t1
  rw [kf_0 (f := s_sv) (fun c n => k_svL_0 (nI c) 12 n), kf_0 s_dr_0, kf_0 s_fin_0, kf_0 s_ms_0, kf_0 k_mv_0]
theorem k_t3_00 (n : ch_N) (j : Nat) : (k_t3 n) 0 0 j = if j = 3 then n 0 0 3 + 1 else n 0 0 j := by
  unfold k_t3
  rw [nw_at]
  have e : ∀ N M, (kf s_ex N (kf s_cg M n)) 0 = n 0 := fun N M => by rw [kf_0 s_ex_0, kf_0 s_cg_0]
  rw [e]
  by_cases h : j = 3
  · rw [if_pos ⟨rfl, rfl, h⟩, if_pos h]
  · rw [if_neg (fun z => h z.2.2), if_neg h]
theorem k_tick_00 (s : ch_N × ch_N) (j : Nat) : (k_tick s).1 0 0 j = if j = 3 then s.1 0 0 3 + 1 else s.1 0 0 j := by
  have e : ∀ N, (kf s_dc N (k_t1 s.1, s.2)).1 0 = s.1 0 := fun N => by rw [s_dc_0]; dsimp only; rw [k_t1_0]
  unfold k_tick
  dsimp only
  rw [k_t3_00, e]
theorem k_adv_s (T : Nat) (s : ch_N × ch_N) : k_adv (T + 1) s = k_tick (k_adv T s) := rfl
theorem k_adv_00 (s : ch_N × ch_N) (j : Nat) (hj : j ≠ 3) : ∀ T, (k_adv T s).1 0 0 j = s.1 0 0 j
  | 0 => rfl
  | T + 1 => by rw [k_adv_s, k_tick_00, if_neg hj, k_adv_00 s j hj T]
theorem k_adv_clk (s : ch_N × ch_N) {c : Nat} (h : s.1 0 0 3 = nI c) : ∀ T, (k_adv T s).1 0 0 3 = nI (c + T)
  | 0 => h
  | T + 1 => by rw [k_adv_s, k_tick_00, if_pos rfl, k_adv_clk s h T, nI_1]; rfl
theorem r_gt {a : Nat} (h : a ≤ 100000) : ¬ (100000 : Int32) < nI a := nI_nlt (a := 100000) (b := a) h (by decide)
def r_cpy (w : Nat → Int32) (b : Nat) (f : Nat → Int32) (k : Nat) : Nat → Int32 := fun i => if 1302 * b ≤ i ∧ i < 1302 * b + k then f (i - 1302 * b) else w i
theorem r_cpy_0 (w : Nat → Int32) (b : Nat) (f : Nat → Int32) : r_cpy w b f 0 = w := by funext i; unfold r_cpy; rw [if_neg (by omega)]
theorem r_cpy_s (w : Nat → Int32) (b : Nat) (f : Nat → Int32) (k : Nat) : up (r_cpy w b f k) (1302 * b + k) (f k) = r_cpy w b f (k + 1) := by
  funext i
  by_cases e : i = 1302 * b + k
  · subst e; rw [up_s]; unfold r_cpy; rw [if_pos (by omega), Nat.add_sub_cancel_left]
  · rw [up_n e]; unfold r_cpy
    by_cases g : 1302 * b ≤ i ∧ i < 1302 * b + k
    · rw [if_pos g, if_pos (by omega)]
    · rw [if_neg g, if_neg (by omega)]
def r_cm (μ : ch_M) (kd a kd2 b k : Nat) : ch_M := up μ 16 (na (μ 16) kd2 0 (r_cpy (μ 16 kd2 0) b (fun j => μ 16 kd 0 (1302 * a + j)) k))
theorem r_cm_0 (μ : ch_M) (kd a kd2 b : Nat) : r_cm μ kd a kd2 b 0 = μ := by unfold r_cm; rw [r_cpy_0, na_id, up_id]
theorem r_cm_rd (μ : ch_M) {kd a kd2 b k : Nat} (h : kd ≠ kd2 ∨ a ≠ b) (hk : k < 1302) : r_cm μ kd a kd2 b k 16 kd 0 (1302 * a + k) = μ 16 kd 0 (1302 * a + k) := by
  unfold r_cm
  rw [up_s, na_at]
  by_cases e : kd = kd2
  · subst e
    rw [if_pos ⟨rfl, rfl⟩]
    unfold r_cpy
    have hab : a ≠ b := h.resolve_left (fun z => z rfl)
    rw [if_neg (by omega)]
  · rw [if_neg (fun z => e z.1)]
theorem r_cm_s (μ : ch_M) (kd a kd2 b k : Nat) : ch_st (r_cm μ kd a kd2 b k) 16 kd2 0 (1302 * b + k) (μ 16 kd 0 (1302 * a + k)) = r_cm μ kd a kd2 b (k + 1) := by
  rw [ch_st_nw]
  unfold r_cm
  rw [up_s, up_up, na_nw, ← r_cpy_s]
