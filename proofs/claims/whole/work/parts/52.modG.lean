/-! THE REFERENCE: levels, coverage, missing relations -/
def r_nr (n : ch_N) (a b : Nat) (x y m : Int32) : Bool := decide ((k_ld n x y (k_cc n)).1 = nI a ∧ 0 < k_lv n b x y ∧ ¬ m < k_lv n a x y - k_lv n b x y)
def r_ctB (n : ch_N) (a b : Nat) (m : Int32) (u : Nat) (M : Nat) (r0 : Int32) : Int32 := kf (fun v r => if r_nr n a b (nI (37 * u)) (nI (37 * v)) m = true then r + 1 else r) M r0
def r_mct (n : ch_N) (a b : Nat) (m : Int32) (N : Nat) : Int32 := kf (fun u r => r_ctB n a b m u 28 r) N 0
theorem r_mct_s (n : ch_N) (a b : Nat) (m : Int32) (N : Nat) : r_mct n a b m (N + 1) = r_ctB n a b m N 28 (r_mct n a b m N) := by unfold r_mct; rw [kf_s]
theorem r_ctB_s (n : ch_N) (a b : Nat) (m : Int32) (u M : Nat) (r : Int32) : r_ctB n a b m u (M + 1) r = if r_nr n a b (nI (37 * u)) (nI (37 * M)) m = true then r_ctB n a b m u M r + 1 else r_ctB n a b m u M r := by unfold r_ctB; rw [kf_s]
theorem k_nr1_at {n q : ch_N} {s c a b : Nat} {x y m : Int32} (hs : s < 8) (hc : c < 8) (ha : a < 8) (hb : b < 8) : k_nr1 n (nI s) x y m c q 21 0 (8 * a + b) = if a = s ∧ b = c ∧ ¬ c = s ∧ 0 < k_lv n c x y ∧ ¬ m < k_lv n s x y - k_lv n c x y then q 21 0 (8 * a + b) + 1 else q 21 0 (8 * a + b) := by
  have ei : nI s * 8 + nI c = nI (8 * s + c) := by rw [show (8 : Int32) = nI 8 from rfl, pk_mul, nI_add, Nat.mul_comm]
  unfold k_nr1
  rw [ei, k_cel hs, nI_clamp (by omega)]
  by_cases h : ¬ c = s ∧ 0 < k_lv n c x y ∧ ¬ m < k_lv n s x y - k_lv n c x y
  · rw [if_pos ⟨fun z => h.1 ((nI_eq (by omega) (by omega)).mp z), h.2.1, h.2.2, nI_pos (by omega), nI_lt (b := 64) (by omega) (by decide)⟩, nw_at]
    by_cases e : a = s ∧ b = c
    · rw [if_pos ⟨rfl, rfl, by omega⟩, if_pos ⟨e.1, e.2, h⟩, e.1, e.2]
    · rw [if_neg (by omega), if_neg (fun z => e ⟨z.1, z.2.1⟩)]
  · rw [if_neg (fun z => h ⟨fun y => z.1 (by rw [y]), z.2.1, z.2.2.1⟩), if_neg (fun z => h z.2.2)]
theorem k_nrL_at {n q : ch_N} {s a b : Nat} {x y m : Int32} (hs : s < 8) (ha : a < 8) (hb : b < 8) : ∀ N, N ≤ 8 → (kf (k_nr1 n (nI s) x y m) N q) 21 0 (8 * a + b) = if a = s ∧ b < N ∧ ¬ b = s ∧ 0 < k_lv n b x y ∧ ¬ m < k_lv n s x y - k_lv n b x y then q 21 0 (8 * a + b) + 1 else q 21 0 (8 * a + b)
  | 0, _ => by rw [if_neg (fun z => absurd z.2.1 (Nat.not_lt_zero _))]; rfl
  | N + 1, hN => by
    rw [kf_s, k_nr1_at hs (by omega) ha hb, k_nrL_at hs ha hb N (by omega)]
    by_cases e : b = N
    · subst e
      rw [if_neg (show ¬ (a = s ∧ b < b ∧ ¬ b = s ∧ 0 < k_lv n b x y ∧ ¬ m < k_lv n s x y - k_lv n b x y) from fun z => absurd z.2.1 (Nat.lt_irrefl _))]
      by_cases g : a = s ∧ b = b ∧ ¬ b = s ∧ 0 < k_lv n b x y ∧ ¬ m < k_lv n s x y - k_lv n b x y
      · rw [if_pos g, if_pos ⟨g.1, Nat.lt_succ_self _, g.2.2⟩]
      · rw [if_neg g, if_neg (fun z => g ⟨z.1, rfl, z.2.2⟩)]
    · rw [if_neg (fun z => e z.2.1)]
      by_cases g : a = s ∧ b < N ∧ ¬ b = s ∧ 0 < k_lv n b x y ∧ ¬ m < k_lv n s x y - k_lv n b x y
      · rw [if_pos g, if_pos ⟨g.1, by omega, g.2.2⟩]
      · rw [if_neg g, if_neg (fun z => g ⟨z.1, by omega, z.2.2⟩)]
theorem k_nr_at {n q : ch_N} {a b : Nat} {x y m : Int32} (hcc : k_cc n ≤ 8) (ha : a < k_cc n) (hb : b < k_cc n) : (k_nr n q x y m) 21 0 (8 * a + b) = if ¬ a = b ∧ r_nr n a b x y m = true then q 21 0 (8 * a + b) + 1 else q 21 0 (8 * a + b) := by
  unfold k_nr r_nr
  rcases k_ld_inv n x y (k_cc n) with ⟨-, -, z⟩ | ⟨s, hs, e, -⟩
  · omega
  · rw [e, k_nrL_at (by omega) (by omega) (by omega) (k_cc n) hcc]
    by_cases g : a = s ∧ b < k_cc n ∧ ¬ b = s ∧ 0 < k_lv n b x y ∧ ¬ m < k_lv n s x y - k_lv n b x y
    · obtain ⟨rfl, g2, g3, g4, g5⟩ := g
      rw [if_pos ⟨rfl, g2, g3, g4, g5⟩, if_pos ⟨fun z => g3 z.symm, decide_eq_true ⟨rfl, g4, g5⟩⟩]
    · rw [if_neg g, if_neg]
      rintro ⟨z1, z2⟩
      obtain ⟨y1, y2, y3⟩ := of_decide_eq_true z2
      have := (nI_eq (by omega) (by omega)).mp y1
      subst this
      exact g ⟨rfl, hb, fun y => z1 y.symm, y2, y3⟩
theorem k_nrB_at {n q : ch_N} {a b : Nat} {m : Int32} (hcc : k_cc n ≤ 8) (ha : a < k_cc n) (hb : b < k_cc n) (u : Nat) : ∀ M, (k_nrB n m u M q) 21 0 (8 * a + b) = if a = b then q 21 0 (8 * a + b) else r_ctB n a b m u M (q 21 0 (8 * a + b))
  | 0 => by rw [k_nrB_z]; split <;> rfl
  | M + 1 => by
    rw [k_nrB_s, k_nr_at hcc ha hb, k_nrB_at hcc ha hb u M, r_ctB_s]
    by_cases e : a = b
    · rw [if_neg (fun z => z.1 e), if_pos e, if_pos e]
    · rw [if_neg e, if_neg e]
      by_cases g : r_nr n a b (nI (37 * u)) (nI (37 * M)) m = true
      · rw [if_pos ⟨e, g⟩, if_pos g]
      · rw [if_neg (fun z => g z.2), if_neg g]
theorem k_nrA_at {n q : ch_N} {a b : Nat} {m : Int32} (hcc : k_cc n ≤ 8) (ha : a < k_cc n) (hb : b < k_cc n) (hq : q 21 0 (8 * a + b) = 0) : ∀ N, (k_nrA n m N q) 21 0 (8 * a + b) = if a = b then 0 else r_mct n a b m N
  | 0 => by rw [k_nrA_z, hq]; split <;> rfl
  | N + 1 => by
    rw [k_nrA_s, k_nrB_at hcc ha hb, k_nrA_at hcc ha hb hq N, r_mct_s]
    by_cases e : a = b
    · rw [if_pos e, if_pos e, if_pos e]
    · rw [if_neg e, if_neg e, if_neg e]
theorem r_fmp {n q : ch_N} {a b : Nat} {m : Int32} (hcc : k_cc n ≤ 8) (ha : a < k_cc n) (hb : b < k_cc n) : k_fmp n (k_nrA n m 28 (na q 21 0 (fun _ => 0))) a b = true ↔ (¬ a = b ∧ n 2 (8 * a + b) 0 = 0 ∧ ¬ r_mct n a b m 28 < 3) := by
  unfold k_fmp
  rw [decide_eq_true_iff, k_nrA_at hcc ha hb (by rw [na_at, if_pos ⟨rfl, rfl⟩])]
  by_cases e : a = b
  · rw [if_pos e]
    exact ⟨fun z => absurd (by decide) z.1, fun z => absurd e z.1⟩
  · rw [if_neg e]
    exact ⟨fun z => ⟨e, z.2, z.1⟩, fun z => ⟨z.2.2, z.2.1⟩⟩
set_option maxHeartbeats 100000 in
theorem c_X12_level {l : Launch} {E : ch_E} {S : ch_S} {μ : ch_M} (hs : ch_Std E S) {n : ch_N} (hN : r_N n (μ 16 23 0)) {c : Nat} (hc : c < k_cc n) {x y : Int32} (hx : ¬ x < 0 ∧ ¬ 999 < x) (hy : ¬ y < 0 ∧ ¬ 999 < y) : ch_C E l yX12_level cX12_level 4 (some FieldType.int) 3 0 0 S μ [.ref (S.1 16 22 0), .int (nI c), .int x, .int y] (ch_F (some (.int (k_lv n c x y))) S (r_th μ 0)) := by
  refine ch_enter rfl rfl ?_
  intro X hl0 h hG hR hnm
  have h : ch_H X E RX12 cX12_level 4 := h
  have hc8 := r_c8 hN hc
  show ch_W X E 4 S μ 0 0 0 [(0, .ref (S.1 16 22 0)), (1, .int (nI c)), (2, .int x), (3, .int y)] []
  refine ca_aload_nr h dX12_level_0 rfl ?_
  refine ca_iconst h dX12_level_1 ik_0 ?_
  refine pi_X12_70 h (hs.1 _ _ _ ⟨rfl, rfl⟩) dX12_level_2 ?_
  refine ca_mem (μ'' := r_th μ 0) rfl ?_
  refine ca_aload_nr h dX12_level_5 rfl ?_
  refine ca_iload_n h dX12_level_6 rfl ?_
  refine ca_vi h hG ml_X12_104 (c_X12_isCell hs) (ci := 12) rfl rfl rfl (hs.1 _ _ _ ⟨rfl, rfl⟩) rfl rfl rfl rfl ⟨Nat.le_refl _, Nat.le_refl _⟩ rfl dX12_level_7 ?_
  refine ca_if_ne (tgt := 19) h dX12_level_10 (by decide) (fun c_10 => ?_) (fun c_10 => ?_)
  ·
    refine ca_iload_n h dX12_level_19 rfl ?_
    refine ca_si h hG ms_X12_111 (c_X12_isCoordinate) rfl rfl rfl rfl ⟨Nat.le_refl _, Nat.le_refl _⟩ rfl dX12_level_20 ?_
    refine ca_if_eq (tgt := 33) h dX12_level_23 (by decide) (fun c_23 => ?_) (fun c_23 => ?_)
    · exact absurd hx (of_decide_eq_false (bI_0.mp c_23))
    ·
      refine ca_iload_n h dX12_level_26 rfl ?_
      refine ca_si h hG ms_X12_111 (c_X12_isCoordinate) rfl rfl rfl rfl ⟨Nat.le_refl _, Nat.le_refl _⟩ rfl dX12_level_27 ?_
      refine ca_if_ne (tgt := 39) h dX12_level_30 (by decide) (fun c_30 => ?_) (fun c_30 => ?_)
      ·
        refine ca_aload_nr h dX12_level_39 rfl ?_
        refine ca_iload_n h dX12_level_40 rfl ?_
        refine ca_iload_n h dX12_level_41 rfl ?_
        refine ca_iload_n h dX12_level_42 rfl ?_
        refine ca_vi h hG ml_X12_97 (c_X12_levelAt hs hc8 (n := n) (fun f hf => by rw [r_th_0]; exact r_cf hN hc hf)) (ci := 12) rfl rfl rfl (hs.1 _ _ _ ⟨rfl, rfl⟩) rfl rfl rfl rfl ⟨Nat.le_refl _, Nat.le_refl _⟩ rfl dX12_level_43 ?_
        refine ca_ireturn h hR rfl dX12_level_46 ?_
        exact ⟨rfl, rfl, rfl⟩
      · exact absurd hy (of_decide_eq_false (bI_0.mp c_30))
  · exact absurd c_10 (fun z => of_decide_eq_false (bI_0.mp z) (by rw [r_th_0]; exact (r_isC hN _).mpr ⟨c, hc, rfl⟩))
set_option maxHeartbeats 100000 in
theorem c_X12_levelN {l : Launch} {E : ch_E} {S : ch_S} {μ : ch_M} (hs : ch_Std E S) {n : ch_N} (hN : r_N n (μ 16 23 0)) {z : Int32} (hc : ¬ ∃ c, c < k_cc n ∧ z = nI c) {x y : Int32} : ch_C E l yX12_level cX12_level 4 (some FieldType.int) 3 0 0 S μ [.ref (S.1 16 22 0), .int z, .int x, .int y] (ch_F (some (.int (0))) S (r_th μ 1)) := by
  refine ch_enter rfl rfl ?_
  intro X hl0 h hG hR hnm
  have h : ch_H X E RX12 cX12_level 4 := h
  show ch_W X E 4 S μ 0 0 0 [(0, .ref (S.1 16 22 0)), (1, .int z), (2, .int x), (3, .int y)] []
  refine ca_aload_nr h dX12_level_0 rfl ?_
  refine ca_iconst h dX12_level_1 ik_0 ?_
  refine pi_X12_70 h (hs.1 _ _ _ ⟨rfl, rfl⟩) dX12_level_2 ?_
  refine ca_mem (μ'' := r_th μ 0) rfl ?_
  refine ca_aload_nr h dX12_level_5 rfl ?_
  refine ca_iload_n h dX12_level_6 rfl ?_
  refine ca_vi h hG ml_X12_104 (c_X12_isCell hs) (ci := 12) rfl rfl rfl (hs.1 _ _ _ ⟨rfl, rfl⟩) rfl rfl rfl rfl ⟨Nat.le_refl _, Nat.le_refl _⟩ rfl dX12_level_7 ?_
  refine ca_if_ne (tgt := 19) h dX12_level_10 (by decide) (fun c_10 => ?_) (fun c_10 => ?_)
  · exact absurd c_10 (fun z => z (bI_0.mpr (decide_eq_false (fun y => hc ((r_isC hN _).mp (by rw [r_th_0] at y; exact y))))))
  ·
    refine ca_aload_nr h dX12_level_13 rfl ?_
    refine ca_iconst h dX12_level_14 ik_1 ?_
    refine ca_vi h hG ml_X12_108 (c_X12_raise hs) (ci := 12) rfl rfl rfl (hs.1 _ _ _ ⟨rfl, rfl⟩) rfl rfl rfl rfl ⟨Nat.le_refl _, Nat.le_refl _⟩ rfl dX12_level_15 ?_
    refine ca_ireturn h hR rfl dX12_level_18 ?_
    exact ⟨rfl, rfl, by rw [r_th_th]⟩
set_option maxHeartbeats 100000 in
theorem c_X12_levelR {l : Launch} {E : ch_E} {S : ch_S} {μ : ch_M} (hs : ch_Std E S) {n : ch_N} (hN : r_N n (μ 16 23 0)) {c : Nat} (hc : c < k_cc n) {x y : Int32} (hb : ¬ ((¬ x < 0 ∧ ¬ 999 < x) ∧ (¬ y < 0 ∧ ¬ 999 < y))) : ch_C E l yX12_level cX12_level 4 (some FieldType.int) 3 0 0 S μ [.ref (S.1 16 22 0), .int (nI c), .int x, .int y] (ch_F (some (.int (0))) S (r_th μ 2)) := by
  refine ch_enter rfl rfl ?_
  intro X hl0 h hG hR hnm
  have h : ch_H X E RX12 cX12_level 4 := h
  show ch_W X E 4 S μ 0 0 0 [(0, .ref (S.1 16 22 0)), (1, .int (nI c)), (2, .int x), (3, .int y)] []
  refine ca_aload_nr h dX12_level_0 rfl ?_
  refine ca_iconst h dX12_level_1 ik_0 ?_
  refine pi_X12_70 h (hs.1 _ _ _ ⟨rfl, rfl⟩) dX12_level_2 ?_
  refine ca_mem (μ'' := r_th μ 0) rfl ?_
  refine ca_aload_nr h dX12_level_5 rfl ?_
  refine ca_iload_n h dX12_level_6 rfl ?_
  refine ca_vi h hG ml_X12_104 (c_X12_isCell hs) (ci := 12) rfl rfl rfl (hs.1 _ _ _ ⟨rfl, rfl⟩) rfl rfl rfl rfl ⟨Nat.le_refl _, Nat.le_refl _⟩ rfl dX12_level_7 ?_
  refine ca_if_ne (tgt := 19) h dX12_level_10 (by decide) (fun c_10 => ?_) (fun c_10 => ?_)
  ·
    refine ca_iload_n h dX12_level_19 rfl ?_
    refine ca_si h hG ms_X12_111 (c_X12_isCoordinate) rfl rfl rfl rfl ⟨Nat.le_refl _, Nat.le_refl _⟩ rfl dX12_level_20 ?_
    refine ca_if_eq (tgt := 33) h dX12_level_23 (by decide) (fun c_23 => ?_) (fun c_23 => ?_)
    ·
      refine ca_aload_nr h dX12_level_33 rfl ?_
      refine ca_iconst h dX12_level_34 ik_2 ?_
      refine ca_vi h hG ml_X12_108 (c_X12_raise hs) (ci := 12) rfl rfl rfl (hs.1 _ _ _ ⟨rfl, rfl⟩) rfl rfl rfl rfl ⟨Nat.le_refl _, Nat.le_refl _⟩ rfl dX12_level_35 ?_
      refine ca_ireturn h hR rfl dX12_level_38 ?_
      exact ⟨rfl, rfl, by rw [r_th_th]⟩
    ·
      refine ca_iload_n h dX12_level_26 rfl ?_
      refine ca_si h hG ms_X12_111 (c_X12_isCoordinate) rfl rfl rfl rfl ⟨Nat.le_refl _, Nat.le_refl _⟩ rfl dX12_level_27 ?_
      refine ca_if_ne (tgt := 39) h dX12_level_30 (by decide) (fun c_30 => ?_) (fun c_30 => ?_)
      ·
        exact absurd ⟨of_decide_eq_true (bI_n0.mp c_23), of_decide_eq_true (bI_n0.mp c_30)⟩ hb
      ·
        refine ca_aload_nr h dX12_level_33 rfl ?_
        refine ca_iconst h dX12_level_34 ik_2 ?_
        refine ca_vi h hG ml_X12_108 (c_X12_raise hs) (ci := 12) rfl rfl rfl (hs.1 _ _ _ ⟨rfl, rfl⟩) rfl rfl rfl rfl ⟨Nat.le_refl _, Nat.le_refl _⟩ rfl dX12_level_35 ?_
        refine ca_ireturn h hR rfl dX12_level_38 ?_
        exact ⟨rfl, rfl, by rw [r_th_th]⟩
  · exact absurd c_10 (fun z => of_decide_eq_false (bI_0.mp z) (by rw [r_th_0]; exact (r_isC hN _).mpr ⟨c, hc, rfl⟩))
set_option maxHeartbeats 100000 in
theorem c_X12_strongestCell {l : Launch} {E : ch_E} {S : ch_S} {μ : ch_M} (hs : ch_Std E S) {n : ch_N} (hN : r_N n (μ 16 23 0)) {x y : Int32} (hx : ¬ x < 0 ∧ ¬ 999 < x) (hy : ¬ y < 0 ∧ ¬ 999 < y) : ch_C E l yX12_strongestCell cX12_strongestCell 3 (some FieldType.int) 5 0 0 S μ [.ref (S.1 16 22 0), .int x, .int y] (ch_F (some (.int (k_cov n x y))) S (r_th μ 0)) := by
  refine ch_enter rfl rfl ?_
  intro X hl0 h hG hR hnm
  have h : ch_H X E RX12 cX12_strongestCell 3 := h
  show ch_W X E 3 S μ 0 0 0 [(0, .ref (S.1 16 22 0)), (1, .int x), (2, .int y)] []
  refine ca_aload_nr h dX12_strongestCell_0 rfl ?_
  refine ca_iconst h dX12_strongestCell_1 ik_0 ?_
  refine pi_X12_70 h (hs.1 _ _ _ ⟨rfl, rfl⟩) dX12_strongestCell_2 ?_
  refine ca_mem (μ'' := r_th μ 0) rfl ?_
  refine ca_iload_n h dX12_strongestCell_5 rfl ?_
  refine ca_si h hG ms_X12_111 (c_X12_isCoordinate) rfl rfl rfl rfl ⟨Nat.le_refl _, Nat.le_refl _⟩ rfl dX12_strongestCell_6 ?_
  refine ca_if_eq (tgt := 19) h dX12_strongestCell_9 (by decide) (fun c_9 => ?_) (fun c_9 => ?_)
  · exact absurd hx (of_decide_eq_false (bI_0.mp c_9))
  ·
    refine ca_iload_n h dX12_strongestCell_12 rfl ?_
    refine ca_si h hG ms_X12_111 (c_X12_isCoordinate) rfl rfl rfl rfl ⟨Nat.le_refl _, Nat.le_refl _⟩ rfl dX12_strongestCell_13 ?_
    refine ca_if_ne (tgt := 25) h dX12_strongestCell_16 (by decide) (fun c_16 => ?_) (fun c_16 => ?_)
    ·
      refine ca_aload_nr h dX12_strongestCell_25 rfl ?_
      refine ca_iload_n h dX12_strongestCell_26 rfl ?_
      refine ca_iload_n h dX12_strongestCell_27 rfl ?_
      refine ca_vi h hG ml_X12_114 (c_X12_covering hs (n := n) (by rw [r_th_23]; exact hN)) (ci := 12) rfl rfl rfl (hs.1 _ _ _ ⟨rfl, rfl⟩) rfl rfl rfl rfl ⟨Nat.le_refl _, Nat.le_refl _⟩ rfl dX12_strongestCell_28 ?_
      refine ca_ireturn h hR rfl dX12_strongestCell_31 ?_
      exact ⟨rfl, rfl, rfl⟩
    · exact absurd hy (of_decide_eq_false (bI_0.mp c_16))
set_option maxHeartbeats 100000 in
theorem c_X12_strongestCellR {l : Launch} {E : ch_E} {S : ch_S} {μ : ch_M} (hs : ch_Std E S) {x y : Int32} (hb : ¬ ((¬ x < 0 ∧ ¬ 999 < x) ∧ (¬ y < 0 ∧ ¬ 999 < y))) : ch_C E l yX12_strongestCell cX12_strongestCell 3 (some FieldType.int) 5 0 0 S μ [.ref (S.1 16 22 0), .int x, .int y] (ch_F (some (.int (0))) S (r_th μ 1)) := by
  refine ch_enter rfl rfl ?_
  intro X hl0 h hG hR hnm
  have h : ch_H X E RX12 cX12_strongestCell 3 := h
  show ch_W X E 3 S μ 0 0 0 [(0, .ref (S.1 16 22 0)), (1, .int x), (2, .int y)] []
  refine ca_aload_nr h dX12_strongestCell_0 rfl ?_
  refine ca_iconst h dX12_strongestCell_1 ik_0 ?_
  refine pi_X12_70 h (hs.1 _ _ _ ⟨rfl, rfl⟩) dX12_strongestCell_2 ?_
  refine ca_mem (μ'' := r_th μ 0) rfl ?_
  refine ca_iload_n h dX12_strongestCell_5 rfl ?_
  refine ca_si h hG ms_X12_111 (c_X12_isCoordinate) rfl rfl rfl rfl ⟨Nat.le_refl _, Nat.le_refl _⟩ rfl dX12_strongestCell_6 ?_
  refine ca_if_eq (tgt := 19) h dX12_strongestCell_9 (by decide) (fun c_9 => ?_) (fun c_9 => ?_)
  ·
    refine ca_aload_nr h dX12_strongestCell_19 rfl ?_
    refine ca_iconst h dX12_strongestCell_20 ik_1 ?_
    refine ca_vi h hG ml_X12_108 (c_X12_raise hs) (ci := 12) rfl rfl rfl (hs.1 _ _ _ ⟨rfl, rfl⟩) rfl rfl rfl rfl ⟨Nat.le_refl _, Nat.le_refl _⟩ rfl dX12_strongestCell_21 ?_
    refine ca_ireturn h hR rfl dX12_strongestCell_24 ?_
    exact ⟨rfl, rfl, by rw [r_th_th]⟩
  ·
    refine ca_iload_n h dX12_strongestCell_12 rfl ?_
    refine ca_si h hG ms_X12_111 (c_X12_isCoordinate) rfl rfl rfl rfl ⟨Nat.le_refl _, Nat.le_refl _⟩ rfl dX12_strongestCell_13 ?_
    refine ca_if_ne (tgt := 25) h dX12_strongestCell_16 (by decide) (fun c_16 => ?_) (fun c_16 => ?_)
    ·
      exact absurd ⟨of_decide_eq_true (bI_n0.mp c_9), of_decide_eq_true (bI_n0.mp c_16)⟩ hb
    ·
      refine ca_aload_nr h dX12_strongestCell_19 rfl ?_
      refine ca_iconst h dX12_strongestCell_20 ik_1 ?_
      refine ca_vi h hG ml_X12_108 (c_X12_raise hs) (ci := 12) rfl rfl rfl (hs.1 _ _ _ ⟨rfl, rfl⟩) rfl rfl rfl rfl ⟨Nat.le_refl _, Nat.le_refl _⟩ rfl dX12_strongestCell_21 ?_
      refine ca_ireturn h hR rfl dX12_strongestCell_24 ?_
      exact ⟨rfl, rfl, by rw [r_th_th]⟩
set_option maxHeartbeats 100000 in
theorem c_X12_coverage {l : Launch} {E : ch_E} {S : ch_S} {μ : ch_M} (hs : ch_Std E S) {n : ch_N} (hN : r_N n (μ 16 23 0)) {c : Nat} (hc : c < k_cc n) : ch_C E l yX12_coverage cX12_coverage 5 (some FieldType.int) 5 0 0 S μ [.ref (S.1 16 22 0), .int (nI c)] (ch_F (some (.int (k_cvg n (nI c) 28))) S (r_th μ 0)) := by
  refine ch_enter rfl rfl ?_
  intro X hl0 h hG hR hnm
  have h : ch_H X E RX12 cX12_coverage 5 := h
  show ch_W X E 5 S μ 0 0 0 [(0, .ref (S.1 16 22 0)), (1, .int (nI c))] []
  refine ca_aload_nr h dX12_coverage_0 rfl ?_
  refine ca_iconst h dX12_coverage_1 ik_0 ?_
  refine pi_X12_70 h (hs.1 _ _ _ ⟨rfl, rfl⟩) dX12_coverage_2 ?_
  refine ca_mem (μ'' := r_th μ 0) rfl ?_
  refine ca_aload_nr h dX12_coverage_5 rfl ?_
  refine ca_iload_n h dX12_coverage_6 rfl ?_
  refine ca_vi h hG ml_X12_104 (c_X12_isCell hs) (ci := 12) rfl rfl rfl (hs.1 _ _ _ ⟨rfl, rfl⟩) rfl rfl rfl rfl ⟨Nat.le_refl _, Nat.le_refl _⟩ rfl dX12_coverage_7 ?_
  refine ca_if_ne (tgt := 19) h dX12_coverage_10 (by decide) (fun c_10 => ?_) (fun c_10 => ?_)
  ·
    refine ca_iconst h dX12_coverage_19 ik_0 ?_
    refine ca_istore_n h dX12_coverage_20 rfl ?_
    refine ca_iconst h dX12_coverage_21 ik_0 ?_
    refine ca_istore_n h dX12_coverage_22 rfl ?_
    have loop_23 : ∀ (jj a : Nat), a + jj = 28 → ∀ (x2 : Int32) (e2 : x2 = k_cvg n (nI c) a) (x3 : Int32) (e3 : x3 = nI (37 * a)), ch_W X E 5 S (r_th μ 0) 0 0 23 [(0, .ref (S.1 16 22 0)), (1, .int (nI c)), (2, .int x2), (3, .int x3)] [] := by
      intro jj
      induction jj with
      | zero =>
        intro a hn x2 e2 x3 e3
        have hn : a = 28 := by omega
        subst e2 e3
        refine ca_iload_n h dX12_coverage_23 rfl ?_
        refine ca_sipush h dX12_coverage_24 sk_999 ?_
        refine ca_icmp_gt (tgt := 72) h dX12_coverage_27 (by decide) (fun c_27 => ?_) (fun c_27 => ?_)
        ·
          refine ca_iload_n h dX12_coverage_72 rfl ?_
          refine ca_ireturn h hR rfl dX12_coverage_73 ?_
          exact ⟨by rw [hn], rfl, rfl⟩
        · exact absurd (by rw [hn]; decide) c_27
      | succ jj ih_23 =>
        intro a hn x2 e2 x3 e3
        have hn1 : a < 28 := by omega
        subst e2 e3
        refine ca_iload_n h dX12_coverage_23 rfl ?_
        refine ca_sipush h dX12_coverage_24 sk_999 ?_
        refine ca_icmp_gt (tgt := 72) h dX12_coverage_27 (by decide) (fun c_27 => ?_) (fun c_27 => ?_)
        · exact absurd c_27 (nI_nlt (a := 999) (by omega) (by decide))
        ·
          refine ca_iconst h dX12_coverage_30 ik_0 ?_
          refine ca_istore h dX12_coverage_31 rfl ?_
          have loop_33 : ∀ (jj b : Nat), b + jj = 28 → ∀ (x2 : Int32) (e2 : x2 = kf (fun b r => if k_cov n (nI (37 * a)) (nI (37 * b)) = nI c then r + 1 else r) b (k_cvg n (nI c) a)) (x4 : Int32) (e4 : x4 = nI (37 * b)), ch_W X E 5 S (r_th μ 0) 0 0 33 [(0, .ref (S.1 16 22 0)), (1, .int (nI c)), (2, .int x2), (3, .int (nI (37 * a))), (4, .int x4)] [] := by
            intro jj
            induction jj with
            | zero =>
              intro b hn x2 e2 x4 e4
              have hn : b = 28 := by omega
              subst e2 e4
              refine ca_iload h dX12_coverage_33 rfl ?_
              refine ca_sipush h dX12_coverage_35 sk_999 ?_
              refine ca_icmp_gt (tgt := 66) h dX12_coverage_38 (by decide) (fun c_38 => ?_) (fun c_38 => ?_)
              ·
                refine ca_iinc h dX12_coverage_66 rfl (v := 37) (by decide) rfl ?_
                refine ca_goto (tgt := 23) h dX12_coverage_69 (by decide) ?_
                refine ca_pick [1, 2, 3, 0] rfl ?_
                exact ih_23 (a + 1) (by omega) _ (by rw [hn, k_cvg_s]) _ (nI37 a)
              · exact absurd (by rw [hn]; decide) c_38
            | succ jj ih_33 =>
              intro b hn x2 e2 x4 e4
              have hn1 : b < 28 := by omega
              subst e2 e4
              refine ca_iload h dX12_coverage_33 rfl ?_
              refine ca_sipush h dX12_coverage_35 sk_999 ?_
              refine ca_icmp_gt (tgt := 66) h dX12_coverage_38 (by decide) (fun c_38 => ?_) (fun c_38 => ?_)
              · exact absurd c_38 (nI_nlt (a := 999) (by omega) (by decide))
              ·
                refine ca_iload_n h dX12_coverage_41 rfl ?_
                refine ca_aload_nr h dX12_coverage_42 rfl ?_
                refine ca_iload_n h dX12_coverage_43 rfl ?_
                refine ca_iload h dX12_coverage_44 rfl ?_
                refine ca_vi h hG ml_X12_114 (c_X12_covering hs (n := n) (by rw [r_th_23]; exact hN)) (ci := 12) rfl rfl rfl (hs.1 _ _ _ ⟨rfl, rfl⟩) rfl rfl rfl rfl ⟨Nat.le_refl _, Nat.le_refl _⟩ rfl dX12_coverage_46 ?_
                refine ca_iload_n h dX12_coverage_49 rfl ?_
                refine ca_icmp_ne (tgt := 57) h dX12_coverage_50 (by decide) (fun c_50 => ?_) (fun c_50 => ?_)
                ·
                  refine ca_iconst h dX12_coverage_57 ik_0 ?_
                  refine ca_iadd h dX12_coverage_58 ?_
                  refine ca_istore_n h dX12_coverage_59 rfl ?_
                  refine ca_iinc h dX12_coverage_60 rfl (v := 37) (by decide) rfl ?_
                  refine ca_goto (tgt := 33) h dX12_coverage_63 (by decide) ?_
                  refine ca_pick [2, 3, 1, 4, 0] rfl ?_
                  exact ih_33 (b + 1) (by omega) _ (by rw [kf_s, if_neg c_50, Int32.add_zero]) _ (nI37 b)
                ·
                  refine ca_iconst h dX12_coverage_53 ik_1 ?_
                  refine ca_goto (tgt := 58) h dX12_coverage_54 (by decide) ?_
                  refine ca_iadd h dX12_coverage_58 ?_
                  refine ca_istore_n h dX12_coverage_59 rfl ?_
                  refine ca_iinc h dX12_coverage_60 rfl (v := 37) (by decide) rfl ?_
                  refine ca_goto (tgt := 33) h dX12_coverage_63 (by decide) ?_
                  refine ca_pick [2, 3, 1, 4, 0] rfl ?_
                  exact ih_33 (b + 1) (by omega) _ (by rw [kf_s, if_pos c_50]) _ (nI37 b)
          refine ca_pick [1, 2, 3, 4, 0] rfl ?_
          exact loop_33 _ 0 (Nat.zero_add _) _ (kf_z _ _).symm _ rfl
    refine ca_pick [2, 3, 1, 0] rfl ?_
    exact loop_23 _ 0 (Nat.zero_add _) _ (k_cvg_z _ _).symm _ rfl
  · exact absurd c_10 (fun z => of_decide_eq_false (bI_0.mp z) (by rw [r_th_0]; exact (r_isC hN _).mpr ⟨c, hc, rfl⟩))
set_option maxHeartbeats 100000 in
theorem c_X12_coverageN {l : Launch} {E : ch_E} {S : ch_S} {μ : ch_M} (hs : ch_Std E S) {n : ch_N} (hN : r_N n (μ 16 23 0)) {z : Int32} (hc : ¬ ∃ c, c < k_cc n ∧ z = nI c) : ch_C E l yX12_coverage cX12_coverage 5 (some FieldType.int) 5 0 0 S μ [.ref (S.1 16 22 0), .int z] (ch_F (some (.int (0))) S (r_th μ 1)) := by
  refine ch_enter rfl rfl ?_
  intro X hl0 h hG hR hnm
  have h : ch_H X E RX12 cX12_coverage 5 := h
  show ch_W X E 5 S μ 0 0 0 [(0, .ref (S.1 16 22 0)), (1, .int z)] []
  refine ca_aload_nr h dX12_coverage_0 rfl ?_
  refine ca_iconst h dX12_coverage_1 ik_0 ?_
  refine pi_X12_70 h (hs.1 _ _ _ ⟨rfl, rfl⟩) dX12_coverage_2 ?_
  refine ca_mem (μ'' := r_th μ 0) rfl ?_
  refine ca_aload_nr h dX12_coverage_5 rfl ?_
  refine ca_iload_n h dX12_coverage_6 rfl ?_
  refine ca_vi h hG ml_X12_104 (c_X12_isCell hs) (ci := 12) rfl rfl rfl (hs.1 _ _ _ ⟨rfl, rfl⟩) rfl rfl rfl rfl ⟨Nat.le_refl _, Nat.le_refl _⟩ rfl dX12_coverage_7 ?_
  refine ca_if_ne (tgt := 19) h dX12_coverage_10 (by decide) (fun c_10 => ?_) (fun c_10 => ?_)
  · exact absurd c_10 (fun z => z (bI_0.mpr (decide_eq_false (fun y => hc ((r_isC hN _).mp (by rw [r_th_0] at y; exact y))))))
  ·
    refine ca_aload_nr h dX12_coverage_13 rfl ?_
    refine ca_iconst h dX12_coverage_14 ik_1 ?_
    refine ca_vi h hG ml_X12_108 (c_X12_raise hs) (ci := 12) rfl rfl rfl (hs.1 _ _ _ ⟨rfl, rfl⟩) rfl rfl rfl rfl ⟨Nat.le_refl _, Nat.le_refl _⟩ rfl dX12_coverage_15 ?_
    refine ca_ireturn h hR rfl dX12_coverage_18 ?_
    exact ⟨rfl, rfl, by rw [r_th_th]⟩
set_option maxHeartbeats 100000 in
theorem c_X12_isNear {l : Launch} {E : ch_E} {S : ch_S} {μ : ch_M} (hs : ch_Std E S) {n : ch_N} (hN : r_N n (μ 16 23 0)) {a b : Nat} (ha : a < k_cc n) (hb : b < k_cc n) {x y m : Int32} : ch_C E l yX12_isNear cX12_isNear 7 (some FieldType.boolean) 4 0 0 S μ [.ref (S.1 16 22 0), .int (nI a), .int (nI b), .int x, .int y, .int m] (ch_F (some (.int (bI (r_nr n a b x y m)))) S (μ)) := by
  refine ch_enter rfl rfl ?_
  intro X hl0 h hG hR hnm
  have h : ch_H X E RX12 cX12_isNear 7 := h
  show ch_W X E 7 S μ 0 0 0 [(0, .ref (S.1 16 22 0)), (1, .int (nI a)), (2, .int (nI b)), (3, .int x), (4, .int y), (5, .int m)] []
  refine ca_aload_nr h dX12_isNear_0 rfl ?_
  refine ca_iload_n h dX12_isNear_1 rfl ?_
  refine ca_iload_n h dX12_isNear_2 rfl ?_
  refine ca_iload h dX12_isNear_3 rfl ?_
  refine ca_vi h hG ml_X12_97 (c_X12_levelAt hs (r_c8 hN hb) (n := n) (fun f hf => r_cf hN hb hf)) (ci := 12) rfl rfl rfl (hs.1 _ _ _ ⟨rfl, rfl⟩) rfl rfl rfl rfl ⟨Nat.le_refl _, Nat.le_refl _⟩ rfl dX12_isNear_5 ?_
  refine ca_istore h dX12_isNear_8 rfl ?_
  refine ca_aload_nr h dX12_isNear_10 rfl ?_
  refine ca_iload_n h dX12_isNear_11 rfl ?_
  refine ca_iload h dX12_isNear_12 rfl ?_
  refine ca_vi h hG ml_X12_101 (c_X12_strongest hs hN) (ci := 12) rfl rfl rfl (hs.1 _ _ _ ⟨rfl, rfl⟩) rfl rfl rfl rfl ⟨Nat.le_refl _, Nat.le_refl _⟩ rfl dX12_isNear_14 ?_
  refine ca_iload_n h dX12_isNear_17 rfl ?_
  refine ca_icmp_ne (tgt := 46) h dX12_isNear_18 (by decide) (fun c_18 => ?_) (fun c_18 => ?_)
  ·
    refine ca_iconst h dX12_isNear_46 ik_0 ?_
    refine ca_ireturn h hR rfl dX12_isNear_47 ?_
    exact ⟨by unfold r_nr; rw [decide_eq_false (fun z => c_18 z.1)]; rfl, rfl, rfl⟩
  ·
    refine ca_iload h dX12_isNear_21 rfl ?_
    refine ca_if_le (tgt := 46) h dX12_isNear_23 (by decide) (fun c_23 => ?_) (fun c_23 => ?_)
    ·
      refine ca_iconst h dX12_isNear_46 ik_0 ?_
      refine ca_ireturn h hR rfl dX12_isNear_47 ?_
      exact ⟨by unfold r_nr; rw [decide_eq_false (fun z => c_23 z.2.1)]; rfl, rfl, rfl⟩
    ·
      refine ca_aload_nr h dX12_isNear_26 rfl ?_
      refine ca_iload_n h dX12_isNear_27 rfl ?_
      refine ca_iload_n h dX12_isNear_28 rfl ?_
      refine ca_iload h dX12_isNear_29 rfl ?_
      refine ca_vi h hG ml_X12_97 (c_X12_levelAt hs (r_c8 hN ha) (n := n) (fun f hf => r_cf hN ha hf)) (ci := 12) rfl rfl rfl (hs.1 _ _ _ ⟨rfl, rfl⟩) rfl rfl rfl rfl ⟨Nat.le_refl _, Nat.le_refl _⟩ rfl dX12_isNear_31 ?_
      refine ca_iload h dX12_isNear_34 rfl ?_
      refine ca_isub h dX12_isNear_36 ?_
      refine ca_iload h dX12_isNear_37 rfl ?_
      refine ca_icmp_gt (tgt := 46) h dX12_isNear_39 (by decide) (fun c_39 => ?_) (fun c_39 => ?_)
      ·
        refine ca_iconst h dX12_isNear_46 ik_0 ?_
        refine ca_ireturn h hR rfl dX12_isNear_47 ?_
        exact ⟨by unfold r_nr; rw [decide_eq_false (fun z => z.2.2 c_39)]; rfl, rfl, rfl⟩
      ·
        refine ca_iconst h dX12_isNear_42 ik_1 ?_
        refine ca_goto (tgt := 47) h dX12_isNear_43 (by decide) ?_
        refine ca_ireturn h hR rfl dX12_isNear_47 ?_
        exact ⟨by unfold r_nr; rw [decide_eq_true ⟨c_18, c_23, c_39⟩]; rfl, rfl, rfl⟩
set_option maxHeartbeats 100000 in
theorem c_X12_isMissing {l : Launch} {E : ch_E} {S : ch_S} {μ : ch_M} (hs : ch_Std E S) {n : ch_N} (hN : r_N n (μ 16 23 0)) {a b : Nat} (ha : a < k_cc n) (hb : b < k_cc n) {m : Int32} : ch_C E l yX12_isMissing cX12_isMissing 7 (some FieldType.boolean) 5 0 0 S μ [.ref (S.1 16 22 0), .int (nI a), .int (nI b), .int m] (ch_F (some (.int (bI (decide (¬ r_mct n a b m 28 < 3))))) S (μ)) := by
  refine ch_enter rfl rfl ?_
  intro X hl0 h hG hR hnm
  have h : ch_H X E RX12 cX12_isMissing 7 := h
  show ch_W X E 7 S μ 0 0 0 [(0, .ref (S.1 16 22 0)), (1, .int (nI a)), (2, .int (nI b)), (3, .int m)] []
  refine ca_iconst h dX12_isMissing_0 ik_0 ?_
  refine ca_istore h dX12_isMissing_1 rfl ?_
  refine ca_iconst h dX12_isMissing_3 ik_0 ?_
  refine ca_istore h dX12_isMissing_4 rfl ?_
  have loop_6 : ∀ (jj u : Nat), u + jj = 28 → ∀ (x4 : Int32) (e4 : x4 = r_mct n a b m u) (x5 : Int32) (e5 : x5 = nI (37 * u)), ch_W X E 7 S μ 0 0 6 [(0, .ref (S.1 16 22 0)), (1, .int (nI a)), (2, .int (nI b)), (3, .int m), (4, .int x4), (5, .int x5)] [] := by
    intro jj
    induction jj with
    | zero =>
      intro u hn x4 e4 x5 e5
      have hn : u = 28 := by omega
      subst e4 e5
      refine ca_iload h dX12_isMissing_6 rfl ?_
      refine ca_sipush h dX12_isMissing_8 sk_999 ?_
      refine ca_icmp_gt (tgt := 61) h dX12_isMissing_11 (by decide) (fun c_11 => ?_) (fun c_11 => ?_)
      ·
        refine ca_iload h dX12_isMissing_61 rfl ?_
        refine ca_iconst h dX12_isMissing_63 ik_3 ?_
        refine ca_icmp_lt (tgt := 71) h dX12_isMissing_64 (by decide) (fun c_64 => ?_) (fun c_64 => ?_)
        ·
          refine ca_iconst h dX12_isMissing_71 ik_0 ?_
          refine ca_ireturn h hR rfl dX12_isMissing_72 ?_
          rw [show u = 28 from hn] at c_64
          exact ⟨by rw [decide_eq_false (fun z => z c_64)]; rfl, rfl, rfl⟩
        ·
          refine ca_iconst h dX12_isMissing_67 ik_1 ?_
          refine ca_goto (tgt := 72) h dX12_isMissing_68 (by decide) ?_
          refine ca_ireturn h hR rfl dX12_isMissing_72 ?_
          rw [show u = 28 from hn] at c_64
          exact ⟨by rw [decide_eq_true c_64]; rfl, rfl, rfl⟩
      · exact absurd (by rw [hn]; decide) c_11
    | succ jj ih_6 =>
      intro u hn x4 e4 x5 e5
      have hn1 : u < 28 := by omega
      subst e4 e5
      refine ca_iload h dX12_isMissing_6 rfl ?_
      refine ca_sipush h dX12_isMissing_8 sk_999 ?_
      refine ca_icmp_gt (tgt := 61) h dX12_isMissing_11 (by decide) (fun c_11 => ?_) (fun c_11 => ?_)
      · exact absurd c_11 (nI_nlt (a := 999) (by omega) (by decide))
      ·
        refine ca_iconst h dX12_isMissing_14 ik_0 ?_
        refine ca_istore h dX12_isMissing_15 rfl ?_
        have loop_17 : ∀ (jj v : Nat), v + jj = 28 → ∀ (x4 : Int32) (e4 : x4 = r_ctB n a b m u v (r_mct n a b m u)) (x6 : Int32) (e6 : x6 = nI (37 * v)), ch_W X E 7 S μ 0 0 17 [(0, .ref (S.1 16 22 0)), (1, .int (nI a)), (2, .int (nI b)), (3, .int m), (4, .int x4), (5, .int (nI (37 * u))), (6, .int x6)] [] := by
          intro jj
          induction jj with
          | zero =>
            intro v hn x4 e4 x6 e6
            have hn : v = 28 := by omega
            subst e4 e6
            refine ca_iload h dX12_isMissing_17 rfl ?_
            refine ca_sipush h dX12_isMissing_19 sk_999 ?_
            refine ca_icmp_gt (tgt := 55) h dX12_isMissing_22 (by decide) (fun c_22 => ?_) (fun c_22 => ?_)
            ·
              refine ca_iinc h dX12_isMissing_55 rfl (v := 37) (by decide) rfl ?_
              refine ca_goto (tgt := 6) h dX12_isMissing_58 (by decide) ?_
              refine ca_pick [1, 2, 3, 4, 5, 0] rfl ?_
              exact ih_6 (u + 1) (by omega) _ (by rw [hn, r_mct_s]) _ (nI37 u)
            · exact absurd (by rw [hn]; decide) c_22
          | succ jj ih_17 =>
            intro v hn x4 e4 x6 e6
            have hn1 : v < 28 := by omega
            subst e4 e6
            refine ca_iload h dX12_isMissing_17 rfl ?_
            refine ca_sipush h dX12_isMissing_19 sk_999 ?_
            refine ca_icmp_gt (tgt := 55) h dX12_isMissing_22 (by decide) (fun c_22 => ?_) (fun c_22 => ?_)
            · exact absurd c_22 (nI_nlt (a := 999) (by omega) (by decide))
            ·
              refine ca_iload h dX12_isMissing_25 rfl ?_
              refine ca_aload_nr h dX12_isMissing_27 rfl ?_
              refine ca_iload_n h dX12_isMissing_28 rfl ?_
              refine ca_iload_n h dX12_isMissing_29 rfl ?_
              refine ca_iload h dX12_isMissing_30 rfl ?_
              refine ca_iload h dX12_isMissing_32 rfl ?_
              refine ca_iload_n h dX12_isMissing_34 rfl ?_
              refine ca_vi h hG ml_X12_117 (c_X12_isNear hs hN ha hb) (ci := 12) rfl rfl rfl (hs.1 _ _ _ ⟨rfl, rfl⟩) rfl rfl rfl rfl ⟨Nat.le_refl _, Nat.le_refl _⟩ rfl dX12_isMissing_35 ?_
              refine ca_if_eq (tgt := 45) h dX12_isMissing_38 (by decide) (fun c_38 => ?_) (fun c_38 => ?_)
              ·
                refine ca_iconst h dX12_isMissing_45 ik_0 ?_
                refine ca_iadd h dX12_isMissing_46 ?_
                refine ca_istore h dX12_isMissing_47 rfl ?_
                refine ca_iinc h dX12_isMissing_49 rfl (v := 37) (by decide) rfl ?_
                refine ca_goto (tgt := 17) h dX12_isMissing_52 (by decide) ?_
                refine ca_pick [2, 3, 4, 5, 1, 6, 0] rfl ?_
                exact ih_17 (v + 1) (by omega) _ (by rw [r_ctB_s, if_neg (fun z => bI_n0.mpr z c_38), Int32.add_zero]) _ (nI37 v)
              ·
                refine ca_iconst h dX12_isMissing_41 ik_1 ?_
                refine ca_goto (tgt := 46) h dX12_isMissing_42 (by decide) ?_
                refine ca_iadd h dX12_isMissing_46 ?_
                refine ca_istore h dX12_isMissing_47 rfl ?_
                refine ca_iinc h dX12_isMissing_49 rfl (v := 37) (by decide) rfl ?_
                refine ca_goto (tgt := 17) h dX12_isMissing_52 (by decide) ?_
                refine ca_pick [2, 3, 4, 5, 1, 6, 0] rfl ?_
                exact ih_17 (v + 1) (by omega) _ (by rw [r_ctB_s, if_pos (bI_n0.mp c_38)]) _ (nI37 v)
        refine ca_pick [1, 2, 3, 4, 5, 6, 0] rfl ?_
        exact loop_17 _ 0 (Nat.zero_add _) _ (by unfold r_ctB; rw [kf_z]) _ rfl
  refine ca_pick [2, 3, 4, 5, 1, 0] rfl ?_
  exact loop_6 _ 0 (Nat.zero_add _) _ rfl _ rfl
theorem fmO_s {n q : ch_N} {N j a : Nat} (h : a + (j + 1) = N) : k_fmO n q N (j + 1) = if kq (k_fmp n q a) N N = -1 then k_fmO n q N j else nI a * 8 + kq (k_fmp n q a) N N := by
  rw [k_fmO, show N - (j + 1) = a by omega]
set_option maxHeartbeats 100000 in
theorem c_X12_missingRelation {l : Launch} {E : ch_E} {S : ch_S} {μ : ch_M} (hs : ch_Std E S) {n : ch_N} (hN : r_N n (μ 16 23 0)) {q : ch_N} {m : Int32} (hm : ¬ m < 0 ∧ ¬ 30 < m) : ch_C E l yX12_missingRelation cX12_missingRelation 4 (some FieldType.int) 6 0 0 S μ [.ref (S.1 16 22 0), .int m] (ch_F (some (.int (k_fm n q m))) S (r_th μ 0)) := by
  refine ch_enter rfl rfl ?_
  intro X hl0 h hG hR hnm
  have h : ch_H X E RX12 cX12_missingRelation 4 := h
  have hcc := hN.2.2.2.2.2.2.1
  show ch_W X E 4 S μ 0 0 0 [(0, .ref (S.1 16 22 0)), (1, .int m)] []
  refine ca_aload_nr h dX12_missingRelation_0 rfl ?_
  refine ca_iconst h dX12_missingRelation_1 ik_0 ?_
  refine pi_X12_70 h (hs.1 _ _ _ ⟨rfl, rfl⟩) dX12_missingRelation_2 ?_
  refine ca_mem (μ'' := r_th μ 0) rfl ?_
  refine ca_iload_n h dX12_missingRelation_5 rfl ?_
  refine ca_iconst h dX12_missingRelation_6 ik_0 ?_
  refine ca_bipush h dX12_missingRelation_7 bk_30 ?_
  refine ca_si h hG ms_X12_73 (c_X12_inRange) rfl rfl rfl rfl ⟨Nat.le_refl _, Nat.le_refl _⟩ rfl dX12_missingRelation_9 ?_
  refine ca_if_ne (tgt := 21) h dX12_missingRelation_12 (by decide) (fun c_12 => ?_) (fun c_12 => ?_)
  ·
    refine ca_iconst h dX12_missingRelation_21 ik_0 ?_
    refine ca_istore_n h dX12_missingRelation_22 rfl ?_
    have loop_23 : ∀ (jj a : Nat), a + jj = k_cc n → ∀ (x2 : Int32) (e2 : x2 = nI a) (hq : k_fm n q m = k_fmO n (k_nrA n m 28 (na q 21 0 (fun _ => 0))) (k_cc n) jj), ch_W X E 4 S (r_th μ 0) 0 0 23 [(0, .ref (S.1 16 22 0)), (1, .int m), (2, .int x2)] [] := by
      intro jj
      induction jj with
      | zero =>
        intro a hn x2 e2 hq
        have hn : a = k_cc n := by omega
        subst e2
        refine ca_iload_n h dX12_missingRelation_23 rfl ?_
        refine ca_aload_nr h dX12_missingRelation_24 rfl ?_
        refine gs_X12_9 h hs ⟨rfl, rfl⟩ dX12_missingRelation_25 ?_
        refine ca_iconst h dX12_missingRelation_28 ik_0 ?_
        refine ca_iald h rfl (hs.1 _ _ _ ⟨rfl, rfl⟩) (vp_in_nI (n := 0) (N := 1302) (by decide) (by decide)) dX12_missingRelation_29 ?_
        refine ca_icmp_ge (tgt := 88) h dX12_missingRelation_30 (by decide) (fun c_30 => ?_) (fun c_30 => ?_)
        ·
          refine ca_iconst h dX12_missingRelation_88 ik_m1 ?_
          refine ca_ireturn h hR rfl dX12_missingRelation_89 ?_
          exact ⟨by rw [hq]; rfl, rfl, rfl⟩
        · exact absurd c_30 (by rw [r_th_0]; exact lt_no (show k_cc n = Int32.toNatClampNeg (μ 16 23 0 (Int32.toNatClampNeg 0)) from r_cc hN) hn)
      | succ jj ih_23 =>
        intro a hn x2 e2 hq
        have hn1 : a < k_cc n := by omega
        subst e2
        have ha1 : a < k_cc n := hn1
        have hna := hn
        obtain ⟨jj9, hjj9⟩ : ∃ z, z = jj := ⟨_, rfl⟩
        refine ca_iload_n h dX12_missingRelation_23 rfl ?_
        refine ca_aload_nr h dX12_missingRelation_24 rfl ?_
        refine gs_X12_9 h hs ⟨rfl, rfl⟩ dX12_missingRelation_25 ?_
        refine ca_iconst h dX12_missingRelation_28 ik_0 ?_
        refine ca_iald h rfl (hs.1 _ _ _ ⟨rfl, rfl⟩) (vp_in_nI (n := 0) (N := 1302) (by decide) (by decide)) dX12_missingRelation_29 ?_
        refine ca_icmp_ge (tgt := 88) h dX12_missingRelation_30 (by decide) (fun c_30 => ?_) (fun c_30 => ?_)
        · exact absurd (by rw [r_th_0]; exact lt_yes (show k_cc n = Int32.toNatClampNeg (μ 16 23 0 (Int32.toNatClampNeg 0)) from r_cc hN) hn1) c_30
        ·
          refine ca_iconst h dX12_missingRelation_33 ik_0 ?_
          refine ca_istore_n h dX12_missingRelation_34 rfl ?_
          have loop_35 : ∀ (jj b : Nat), b + jj = k_cc n → ∀ (x3 : Int32) (e3 : x3 = nI b) (hq2 : kq (k_fmp n (k_nrA n m 28 (na q 21 0 (fun _ => 0))) a) (k_cc n) (k_cc n) = kq (k_fmp n (k_nrA n m 28 (na q 21 0 (fun _ => 0))) a) (k_cc n) jj), ch_W X E 4 S (r_th μ 0) 0 0 35 [(0, .ref (S.1 16 22 0)), (1, .int m), (2, .int (nI a)), (3, .int x3)] [] := by
            intro jj
            induction jj with
            | zero =>
              intro b hn x3 e3 hq2
              have hn : b = k_cc n := by omega
              subst e3
              refine ca_iload_n h dX12_missingRelation_35 rfl ?_
              refine ca_aload_nr h dX12_missingRelation_36 rfl ?_
              refine gs_X12_9 h hs ⟨rfl, rfl⟩ dX12_missingRelation_37 ?_
              refine ca_iconst h dX12_missingRelation_40 ik_0 ?_
              refine ca_iald h rfl (hs.1 _ _ _ ⟨rfl, rfl⟩) (vp_in_nI (n := 0) (N := 1302) (by decide) (by decide)) dX12_missingRelation_41 ?_
              refine ca_icmp_ge (tgt := 82) h dX12_missingRelation_42 (by decide) (fun c_42 => ?_) (fun c_42 => ?_)
              ·
                refine ca_iinc h dX12_missingRelation_82 rfl ik_1 rfl ?_
                refine ca_goto (tgt := 23) h dX12_missingRelation_85 (by decide) ?_
                refine ca_pick [1, 2, 0] rfl ?_
                exact ih_23 (a + 1) (by omega) _ (nI_1 a) (by rw [hq, fmO_s (show a + (jj + 1) = k_cc n from hna), if_pos (show kq (k_fmp n (k_nrA n m 28 (na q 21 0 (fun _ => 0))) a) (k_cc n) (k_cc n) = -1 from hq2)])
              · exact absurd c_42 (by rw [r_th_0]; exact lt_no (show k_cc n = Int32.toNatClampNeg (μ 16 23 0 (Int32.toNatClampNeg 0)) from r_cc hN) hn)
            | succ jj ih_35 =>
              intro b hn x3 e3 hq2
              have hn1 : b < k_cc n := by omega
              subst e3
              refine ca_iload_n h dX12_missingRelation_35 rfl ?_
              refine ca_aload_nr h dX12_missingRelation_36 rfl ?_
              refine gs_X12_9 h hs ⟨rfl, rfl⟩ dX12_missingRelation_37 ?_
              refine ca_iconst h dX12_missingRelation_40 ik_0 ?_
              refine ca_iald h rfl (hs.1 _ _ _ ⟨rfl, rfl⟩) (vp_in_nI (n := 0) (N := 1302) (by decide) (by decide)) dX12_missingRelation_41 ?_
              refine ca_icmp_ge (tgt := 82) h dX12_missingRelation_42 (by decide) (fun c_42 => ?_) (fun c_42 => ?_)
              · exact absurd (by rw [r_th_0]; exact lt_yes (show k_cc n = Int32.toNatClampNeg (μ 16 23 0 (Int32.toNatClampNeg 0)) from r_cc hN) hn1) c_42
              ·
                refine ca_iload_n h dX12_missingRelation_45 rfl ?_
                refine ca_iload_n h dX12_missingRelation_46 rfl ?_
                refine ca_icmp_eq (tgt := 76) h dX12_missingRelation_47 (by decide) (fun c_47 => ?_) (fun c_47 => ?_)
                ·
                  refine ca_iinc h dX12_missingRelation_76 rfl ik_1 rfl ?_
                  refine ca_goto (tgt := 35) h dX12_missingRelation_79 (by decide) ?_
                  refine ca_pick [1, 2, 3, 0] rfl ?_
                  exact ih_35 (b + 1) (by omega) _ (nI_1 b) (by rw [hq2, kq_no hn (fun z => ((r_fmp hcc ha1 hn1).mp z).1 ((nI_eq (by omega) (by omega)).mp c_47))])
                ·
                  refine ca_aload_nr h dX12_missingRelation_50 rfl ?_
                  refine ca_iload_n h dX12_missingRelation_51 rfl ?_
                  refine ca_iload_n h dX12_missingRelation_52 rfl ?_
                  refine ca_vi h hG ml_X12_121 (c_X12_isNeighbour hs (by rw [r_th_23]; exact r_24 hN)) (ci := 12) rfl rfl rfl (hs.1 _ _ _ ⟨rfl, rfl⟩) rfl rfl rfl rfl ⟨Nat.le_refl _, Nat.le_refl _⟩ rfl dX12_missingRelation_53 ?_
                  refine ca_if_ne (tgt := 76) h dX12_missingRelation_56 (by decide) (fun c_56 => ?_) (fun c_56 => ?_)
                  ·
                    refine ca_iinc h dX12_missingRelation_76 rfl ik_1 rfl ?_
                    refine ca_goto (tgt := 35) h dX12_missingRelation_79 (by decide) ?_
                    refine ca_pick [1, 2, 3, 0] rfl ?_
                    exact ih_35 (b + 1) (by omega) _ (nI_1 b) (by rw [hq2, kq_no hn (fun z => of_decide_eq_true (bI_n0.mp c_56) (by rw [r_th_23]; exact (r_nb hN (by omega) (by omega)).mpr ((r_fmp hcc ha1 hn1).mp z).2.1))])
                  ·
                    refine ca_aload_nr h dX12_missingRelation_59 rfl ?_
                    refine ca_iload_n h dX12_missingRelation_60 rfl ?_
                    refine ca_iload_n h dX12_missingRelation_61 rfl ?_
                    refine ca_iload_n h dX12_missingRelation_62 rfl ?_
                    refine ca_vi h hG ml_X12_125 (c_X12_isMissing hs (n := n) (by rw [r_th_23]; exact hN) ha1 hn1) (ci := 12) rfl rfl rfl (hs.1 _ _ _ ⟨rfl, rfl⟩) rfl rfl rfl rfl ⟨Nat.le_refl _, Nat.le_refl _⟩ rfl dX12_missingRelation_63 ?_
                    refine ca_if_eq (tgt := 76) h dX12_missingRelation_66 (by decide) (fun c_66 => ?_) (fun c_66 => ?_)
                    ·
                      refine ca_iinc h dX12_missingRelation_76 rfl ik_1 rfl ?_
                      refine ca_goto (tgt := 35) h dX12_missingRelation_79 (by decide) ?_
                      refine ca_pick [1, 2, 3, 0] rfl ?_
                      exact ih_35 (b + 1) (by omega) _ (nI_1 b) (by rw [hq2, kq_no hn (fun z => of_decide_eq_false (bI_0.mp c_66) ((r_fmp hcc ha1 hn1).mp z).2.2)])
                    ·
                      refine ca_bipush h dX12_missingRelation_69 bk_8 ?_
                      refine ca_iload_n h dX12_missingRelation_71 rfl ?_
                      refine ca_imul h dX12_missingRelation_72 ?_
                      refine ca_iload_n h dX12_missingRelation_73 rfl ?_
                      refine ca_iadd h dX12_missingRelation_74 ?_
                      refine ca_ireturn h hR rfl dX12_missingRelation_75 ?_
                      have hp : k_fmp n (k_nrA n m 28 (na q 21 0 (fun _ => 0))) a b = true := (r_fmp hcc ha1 hn1).mpr ⟨fun z => c_47 (congrArg nI z), by have z := of_decide_eq_false (bI_0.mp c_56); rw [r_th_23] at z; exact (r_nb hN (by omega) (by omega)).mp (Classical.not_not.mp z), of_decide_eq_true (bI_n0.mp c_66)⟩
                      have e2 := hq2.trans (kq_yes hn hp)
                      refine ⟨?_, rfl, rfl⟩
                      rw [hq, fmO_s (by omega), e2, if_neg (nI_nm1 (by omega)), show (8 : Int32) = nI 8 from rfl, pk_mul, pk_mul, nI_add, nI_add, Nat.mul_comm]
          refine ca_pick [1, 2, 3, 0] rfl ?_
          exact loop_35 _ 0 (Nat.zero_add _) _ rfl rfl
    refine ca_pick [1, 2, 0] rfl ?_
    exact loop_23 _ 0 (Nat.zero_add _) _ rfl rfl
  · exact absurd hm (of_decide_eq_false (bI_0.mp c_12))
set_option maxHeartbeats 100000 in
theorem c_X12_missingRelationR {l : Launch} {E : ch_E} {S : ch_S} {μ : ch_M} (hs : ch_Std E S) {m : Int32} (hm : ¬ (¬ m < 0 ∧ ¬ 30 < m)) : ch_C E l yX12_missingRelation cX12_missingRelation 4 (some FieldType.int) 6 0 0 S μ [.ref (S.1 16 22 0), .int m] (ch_F (some (.int (0))) S (r_th μ 1)) := by
  refine ch_enter rfl rfl ?_
  intro X hl0 h hG hR hnm
  have h : ch_H X E RX12 cX12_missingRelation 4 := h
  show ch_W X E 4 S μ 0 0 0 [(0, .ref (S.1 16 22 0)), (1, .int m)] []
  refine ca_aload_nr h dX12_missingRelation_0 rfl ?_
  refine ca_iconst h dX12_missingRelation_1 ik_0 ?_
  refine pi_X12_70 h (hs.1 _ _ _ ⟨rfl, rfl⟩) dX12_missingRelation_2 ?_
  refine ca_mem (μ'' := r_th μ 0) rfl ?_
  refine ca_iload_n h dX12_missingRelation_5 rfl ?_
  refine ca_iconst h dX12_missingRelation_6 ik_0 ?_
  refine ca_bipush h dX12_missingRelation_7 bk_30 ?_
  refine ca_si h hG ms_X12_73 (c_X12_inRange) rfl rfl rfl rfl ⟨Nat.le_refl _, Nat.le_refl _⟩ rfl dX12_missingRelation_9 ?_
  refine ca_if_ne (tgt := 21) h dX12_missingRelation_12 (by decide) (fun c_12 => ?_) (fun c_12 => ?_)
  ·
    exact absurd (of_decide_eq_true (bI_n0.mp c_12)) hm
  ·
    refine ca_aload_nr h dX12_missingRelation_15 rfl ?_
    refine ca_iconst h dX12_missingRelation_16 ik_1 ?_
    refine ca_vi h hG ml_X12_108 (c_X12_raise hs) (ci := 12) rfl rfl rfl (hs.1 _ _ _ ⟨rfl, rfl⟩) rfl rfl rfl rfl ⟨Nat.le_refl _, Nat.le_refl _⟩ rfl dX12_missingRelation_17 ?_
    refine ca_ireturn h hR rfl dX12_missingRelation_20 ?_
    exact ⟨rfl, rfl, by rw [r_th_th]⟩
