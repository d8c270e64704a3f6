/-! THE LAW'S TEXT: bytes packed into the array w, five words a call of feed -/
def p_B (x : Int32) (i : Nat) : Int32 := k_us x (24 - nI (8 * i)) &&& 255
theorem us_or (x y s : Int32) : k_us (x ||| y) s &&& 255 = (k_us x s &&& 255) ||| (k_us y s &&& 255) := by
  unfold k_us
  apply Int32.toBitVec_inj.mp
  simp only [Int32.toBitVec_and, Int32.toBitVec_or, UInt32.toBitVec_toInt32, UInt32.toBitVec_shiftRight, Int32.toBitVec_toUInt32, Int32.toUInt32_or, UInt32.toBitVec_or]
  ext i
  simp only [BitVec.getElem_and, BitVec.getElem_or]
  simp [Bool.and_or_distrib_right]
theorem p_B_b : ∀ b, b < 256 → ∀ k, k < 4 → ∀ i, i < 4 → p_B (nI b <<< (nI (24 - 8 * k) &&& 31)) i = if i = k then nI b else 0 := by decide +kernel
theorem p_B_or (x y : Int32) (i : Nat) : p_B (x ||| y) i = p_B x i ||| p_B y i := us_or x y _
theorem p_B_0 : ∀ i, i < 4 → p_B 0 i = 0 := by decide +kernel
theorem nI_mod {a b : Nat} (ha : a < 2 ^ 31) (hb : 0 < b) (hb3 : b < 2 ^ 31) : nI a - nI a / nI b * nI b = nI (a % b) := by
  rw [pk_div ha hb hb3, pk_mul, pk_sub (Nat.div_mul_le_self a b)]
  congr 1
  have := Nat.div_add_mod a b
  rw [Nat.mul_comm] at this
  omega
/-- the text L has been said: what w and the class's buffer hold -/
def o_w (L : List Int32) (μ : ch_M) : Prop :=
  (∀ x, x ∈ L → ∃ b, b < 256 ∧ x = nI b) ∧ μ 19 46 0 5 = nI L.length ∧
  (∀ j i, j < 5 → i < 4 → p_B (μ 19 46 0 j) i = L.getD (20 * (L.length / 20) + (4 * j + i)) 0) ∧
  ∃ K, K ≤ 35 ∧ (K = 35 ∨ K = L.length / 20) ∧ 20 * K ≤ L.length ∧ μ 15 12 0 0 = nI (20 * K) ∧ ∀ i, i < 20 * K → μ 15 13 0 i = L.getD i 0
/-- what saying changes -/
def o_wr (μ μ' : ch_M) : Prop := (∀ k, k ≠ 15 → k ≠ 19 → μ' k = μ k) ∧ (∀ kd, kd ≠ 12 → kd ≠ 13 → μ' 15 kd = μ 15 kd) ∧ (∀ j, j ≠ 0 → μ' 15 12 0 j = μ 15 12 0 j) ∧ ∀ kd, kd ≠ 46 → μ' 19 kd = μ 19 kd
theorem o_wr_0 (μ : ch_M) : o_wr μ μ := ⟨fun _ _ _ => rfl, fun _ _ _ => rfl, fun _ _ => rfl, fun _ _ => rfl⟩
theorem o_wr_tr {μ μ' μ'' : ch_M} (h : o_wr μ μ') (g : o_wr μ' μ'') : o_wr μ μ'' :=
  ⟨fun k a b => (g.1 k a b).trans (h.1 k a b), fun k a b => (g.2.1 k a b).trans (h.2.1 k a b), fun k a => (g.2.2.1 k a).trans (h.2.2.1 k a), fun k a => (g.2.2.2 k a).trans (h.2.2.2 k a)⟩
theorem o_wr_st {μ μ' : ch_M} {i j : Nat} {v : Int32} (h : o_wr μ μ') : o_wr μ (ch_st μ' 19 46 i j v) :=
  o_wr_tr h ⟨fun k a b => by unfold ch_st; exact up_n b, fun kd a b => by unfold ch_st; rw [up_n (by decide)], fun j' a => by unfold ch_st; rw [up_n (by decide)], fun kd a => by unfold ch_st; rw [up_s]; exact nw_k a⟩
theorem gd_1 (L : List Int32) (x : Int32) (i : Nat) : (L ++ [x]).getD i 0 = if i = L.length then x else L.getD i 0 := by
  by_cases h : i < L.length
  · rw [gd_l _ _ h, if_neg (by omega)]
  · by_cases g : i = L.length
    · subst g
      have := gd_r L [x] 0
      simp at this ⊢
    · rw [if_neg g, List.getD_eq_getElem?_getD, List.getD_eq_getElem?_getD, List.getElem?_eq_none (by simp; omega), List.getElem?_eq_none (by omega)]
theorem gd_out {L : List Int32} {i : Nat} (h : L.length ≤ i) : L.getD i 0 = 0 := by
  rw [List.getD_eq_getElem?_getD, List.getElem?_eq_none h]; rfl
section AD
variable {L : List Int32} {μ : ch_M} {b : Nat}
/-- a byte more in w -/
def o_ad (L : List Int32) (b : Nat) (μ : ch_M) : ch_M := ch_st (ch_st μ 19 46 0 (L.length % 20 / 4) (μ 19 46 0 (L.length % 20 / 4) ||| nI b <<< (nI (24 - 8 * (L.length % 4)) &&& 31))) 19 46 0 5 (nI (L.length + 1))
theorem o_ad_wr : o_wr μ (o_ad L b μ) := o_wr_st (o_wr_st (o_wr_0 μ))
theorem o_ad_5 : o_ad L b μ 19 46 0 5 = nI (L.length + 1) := by unfold o_ad; rw [ch_st_at, if_pos ⟨rfl, rfl, rfl, rfl⟩]
theorem o_ad_w (h : o_w L μ) (hb : b < 256) {j i : Nat} (hj : j < 5) (hi : i < 4) : p_B (o_ad L b μ 19 46 0 j) i = (L ++ [nI b]).getD (20 * (L.length / 20) + (4 * j + i)) 0 := by
  unfold o_ad
  rw [ch_st_at, if_neg (by omega), ch_st_at, gd_1]
  by_cases g : j = L.length % 20 / 4
  · rw [if_pos ⟨rfl, rfl, rfl, g⟩, p_B_or, p_B_b b hb (L.length % 4) (by omega) i hi, ← g, h.2.2.1 j i hj hi]
    by_cases e : i = L.length % 4
    · rw [if_pos e, if_pos (by omega), gd_out (by omega), Int32.zero_or]
    · rw [if_neg e, if_neg (by omega), Int32.or_zero]
  · rw [if_neg (fun z => g z.2.2.2), if_neg (by omega), h.2.2.1 j i hj hi]
theorem o_ad_15 : o_ad L b μ 15 = μ 15 := by unfold o_ad ch_st; rw [up_n (by decide), up_n (by decide)]
theorem o_mem (h : o_w L μ) (hb : b < 256) : ∀ x, x ∈ L ++ [nI b] → ∃ b, b < 256 ∧ x = nI b := fun x hx => by
  rw [List.mem_append] at hx
  rcases hx with hx | hx
  · exact h.1 x hx
  · simp at hx; exact ⟨b, hb, hx⟩
theorem o_ad_A (h : o_w L μ) (hb : b < 256) (hm : ¬ (L.length + 1) % 20 = 0) : o_w (L ++ [nI b]) (o_ad L b μ) := by
  have el : (L ++ [nI b]).length = L.length + 1 := by simp
  obtain ⟨K, k1, k2, k3, k4, k5⟩ := h.2.2.2
  have ed : (L.length + 1) / 20 = L.length / 20 := by omega
  refine ⟨o_mem h hb, by rw [el, o_ad_5], fun j i hj hi => by rw [o_ad_w h hb hj hi, el, ed], K, k1, by rw [el, ed]; exact k2, by rw [el]; omega, by rw [o_ad_15]; exact k4, fun i hi => ?_⟩
  rw [o_ad_15, gd_l _ _ (by omega)]
  exact k5 i hi
/-- w emptied as far as n -/
def o_zz (n : Nat) (μ μ' : ch_M) : Prop := (∀ k kd i j, ¬ (k = 19 ∧ kd = 46 ∧ i = 0 ∧ j < n) → μ' k kd i j = μ k kd i j) ∧ ∀ j, j < n → μ' 19 46 0 j = 0
theorem o_zz_0 (μ : ch_M) : o_zz 0 μ μ := ⟨fun _ _ _ _ _ => rfl, fun _ h => absurd h (Nat.not_lt_zero _)⟩
theorem o_zz_s {n : Nat} {μ μ' : ch_M} (h : o_zz n μ μ') : o_zz (n + 1) μ (ch_st μ' 19 46 0 n 0) := by
  refine ⟨fun k kd i j g => ?_, fun j hj => ?_⟩
  · rw [ch_st_at, if_neg (by omega), h.1 k kd i j (by omega)]
  · rw [ch_st_at]
    by_cases g : j = n
    · rw [if_pos ⟨rfl, rfl, rfl, g⟩]
    · rw [if_neg (fun z => g z.2.2.2), h.2 j (by omega)]
theorem o_zz_wr {n : Nat} {μ0 μ μ' : ch_M} (h : o_zz n μ μ') (g : o_wr μ0 μ) : o_wr μ0 μ' := by
  refine o_wr_tr g ⟨fun k a b => ?_, fun kd a b => ?_, fun j a => ?_, fun kd a => ?_⟩
  · funext x y z; exact h.1 k x y z (by omega)
  · funext y z; exact h.1 15 kd y z (by omega)
  · exact h.1 15 12 0 j (by omega)
  · funext y z; exact h.1 19 kd y z (by omega)
theorem o_ad_B {μ' μ'' : ch_M} (h : o_w L μ) (hb : b < 256) (hm : (L.length + 1) % 20 = 0) (hz : o_zz 5 μ' μ'') (h5 : μ' 19 46 0 5 = nI (L.length + 1)) {K : Nat} (k1 : K ≤ 35) (k2 : K = 35 ∨ K = (L.length + 1) / 20) (k3 : 20 * K ≤ L.length + 1) (k4 : μ' 15 12 0 0 = nI (20 * K)) (k5 : ∀ i, i < 20 * K → μ' 15 13 0 i = (L ++ [nI b]).getD i 0) : o_w (L ++ [nI b]) μ'' := by
  have el : (L ++ [nI b]).length = L.length + 1 := by simp
  refine ⟨o_mem h hb, by rw [el, hz.1 19 46 0 5 (by omega)]; exact h5, fun j i hj hi => ?_, K, k1, by rw [el]; exact k2, by rw [el]; exact k3, by rw [hz.1 15 12 0 0 (by omega)]; exact k4, fun i hi => by rw [hz.1 15 13 0 i (by omega)]; exact k5 i hi⟩
  rw [hz.2 j hj, p_B_0 i hi, gd_out (by rw [el]; omega)]
theorem t_app_at {q : ch_N} {w : Int32} {p : Nat} (h : q 12 0 0 = nI p) (hp : p + 4 ≤ 700) : ∀ N, N ≤ 4 → (∀ kd i j, ¬ (kd = 12 ∧ i = 0 ∧ j = 0) → ¬ (kd = 13 ∧ i = 0 ∧ p ≤ j ∧ j < p + N) → t_app q w N kd i j = q kd i j) ∧ ∀ i, i < N → t_app q w N 13 0 (p + i) = p_B w i
  | 0, _ => ⟨fun _ _ _ _ _ => rfl, fun _ hi => absurd hi (Nat.not_lt_zero _)⟩
  | N + 1, hN => by
    obtain ⟨a, c⟩ := t_app_at h hp N (by omega)
    have ef : t_app q w N 12 0 0 = nI (p + N) := by rw [t_app_f, h, nI_add]
    rw [t_app_s, ef, nI_clamp (by omega)]
    refine ⟨fun kd i j g1 g2 => ?_, fun i hi => ?_⟩
    · rw [nw_at, if_neg g1, nw_at, if_neg (by omega), a kd i j g1 (by omega)]
    · rw [nw_at, if_neg (by omega), nw_at]
      by_cases g : i = N
      · subst g; rw [if_pos ⟨rfl, rfl, rfl⟩]; rfl
      · rw [if_neg (by omega), c i (by omega)]
theorem k_fd_at {q : ch_N} {W : Nat → Int32} {p : Nat} (h : q 12 0 0 = nI p) (hp : p + 20 ≤ 700) : k_fd q (W 0) (W 1) (W 2) (W 3) (W 4) 12 0 0 = nI (p + 20) ∧ (∀ kd i j, ¬ (kd = 12 ∧ i = 0 ∧ j = 0) → ¬ (kd = 13 ∧ i = 0 ∧ p ≤ j ∧ j < p + 20) → k_fd q (W 0) (W 1) (W 2) (W 3) (W 4) kd i j = q kd i j) ∧ ∀ j i, j < 5 → i < 4 → k_fd q (W 0) (W 1) (W 2) (W 3) (W 4) 13 0 (p + (4 * j + i)) = p_B (W j) i := by
  unfold k_fd
  have a1 := t_app_at (w := W 0) h (by omega) 4 (by omega)
  have f1 : t_app q (W 0) 4 12 0 0 = nI (p + 4) := by rw [t_app_f, h, nI_add]
  generalize t_app q (W 0) 4 = q1 at a1 f1 ⊢
  have a2 := t_app_at (w := W 1) f1 (by omega) 4 (by omega)
  have f2 : t_app q1 (W 1) 4 12 0 0 = nI (p + 8) := by rw [t_app_f, f1, nI_add]
  generalize t_app q1 (W 1) 4 = q2 at a2 f2 ⊢
  have a3 := t_app_at (w := W 2) f2 (by omega) 4 (by omega)
  have f3 : t_app q2 (W 2) 4 12 0 0 = nI (p + 12) := by rw [t_app_f, f2, nI_add]
  generalize t_app q2 (W 2) 4 = q3 at a3 f3 ⊢
  have a4 := t_app_at (w := W 3) f3 (by omega) 4 (by omega)
  have f4 : t_app q3 (W 3) 4 12 0 0 = nI (p + 16) := by rw [t_app_f, f3, nI_add]
  generalize t_app q3 (W 3) 4 = q4 at a4 f4 ⊢
  have a5 := t_app_at (w := W 4) f4 (by omega) 4 (by omega)
  have f5 : t_app q4 (W 4) 4 12 0 0 = nI (p + 20) := by rw [t_app_f, f4, nI_add]
  generalize t_app q4 (W 4) 4 = q5 at a5 f5 ⊢
  refine ⟨f5, fun kd i j g1 g2 => ?_, fun j i hj hi => ?_⟩
  · rw [a5.1 kd i j g1 (by omega), a4.1 kd i j g1 (by omega), a3.1 kd i j g1 (by omega), a2.1 kd i j g1 (by omega), a1.1 kd i j g1 (by omega)]
  · have s5 : ∀ x, x < p + 16 → q5 13 0 x = q4 13 0 x := fun x hx => a5.1 13 0 x (by omega) (by omega)
    have s4 : ∀ x, x < p + 12 → q4 13 0 x = q3 13 0 x := fun x hx => a4.1 13 0 x (by omega) (by omega)
    have s3 : ∀ x, x < p + 8 → q3 13 0 x = q2 13 0 x := fun x hx => a3.1 13 0 x (by omega) (by omega)
    have s2 : ∀ x, x < p + 4 → q2 13 0 x = q1 13 0 x := fun x hx => a2.1 13 0 x (by omega) (by omega)
    rcases (show j = 0 ∨ j = 1 ∨ j = 2 ∨ j = 3 ∨ j = 4 by omega) with rfl | rfl | rfl | rfl | rfl
    · rw [s5 _ (by omega), s4 _ (by omega), s3 _ (by omega), s2 _ (by omega), show p + (4 * 0 + i) = p + i by omega]; exact a1.2 i hi
    · rw [s5 _ (by omega), s4 _ (by omega), s3 _ (by omega), show p + (4 * 1 + i) = p + 4 + i by omega]; exact a2.2 i hi
    · rw [s5 _ (by omega), s4 _ (by omega), show p + (4 * 2 + i) = p + 8 + i by omega]; exact a3.2 i hi
    · rw [s5 _ (by omega), show p + (4 * 3 + i) = p + 12 + i by omega]; exact a4.2 i hi
    · rw [show p + (4 * 4 + i) = p + 16 + i by omega]; exact a5.2 i hi
end AD
