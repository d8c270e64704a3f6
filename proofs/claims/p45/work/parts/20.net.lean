/-! THE CLASS, its network: what its methods answer (n: one network's memory) -/
def bI (b : Bool) : Int32 := if b = true then 1 else 0
theorem bI_0 {b : Bool} : bI b = 0 ↔ b = false := by cases b <;> decide
theorem bI_1 {b : Bool} : bI b = 1 ↔ b = true := by cases b <;> decide
theorem bI_n0 {b : Bool} : ¬ bI b = 0 ↔ b = true := by cases b <;> decide
theorem bI_01 (b : Bool) : bI b = 0 ∨ bI b = 1 := by cases b <;> decide
theorem bI_z (b : Bool) : narrow .boolean (.int (bI b)) = .int (bI b) := by cases b <;> decide
def k_abs (x : Int32) : Int32 := if 0 ≤ x then x else 0 - x
def k_max (x y : Int32) : Int32 := if x < y then y else x
def k_min (x y : Int32) : Int32 := if y < x then y else x
/-- a place among m, else d -/
def k_ix (m : Int32) (d : Nat) (x : Int32) : Nat := if x < 0 then d else if x < m then Int32.toNatClampNeg x else d
def k_rx (a b : Int32) : Nat := if a < 0 then 64 else if a < 8 then (if b < 0 then 64 else if b < 8 then Int32.toNatClampNeg (a * 8 + b) else 64) else 64
def k_lv (n : ch_N) (c : Nat) (x y : Int32) : Int32 := k_max 0 (n 1 c 2 - n 1 c 3 * (k_abs (x - n 1 c 0) + k_abs (y - n 1 c 1)) / 100)
theorem k_ix_in {m : Int32} {d M j : Nat} (hm : m = nI M) (hM : M < 2 ^ 31) (hj : j < M) : k_ix m d (nI j) = j := by
  unfold k_ix
  rw [if_neg (nI_pos (by omega)), if_pos (by rw [hm]; exact nI_lt hj hM), cn_nI (by omega)]
theorem k_ix_le {m : Int32} {M : Nat} (hm : m = nI M) (hM : M < 2 ^ 31) (x : Int32) : k_ix m M x < M + 1 := by
  unfold k_ix
  split
  · omega
  · rename_i h0
    split
    · rename_i h1
      have := cn_in (vp_lt h0 h1 hm hM)
      omega
    · omega
theorem k_ixc (x : Int32) : k_ix 8 8 x < 9 := k_ix_le (M := 8) rfl (by decide) x
theorem k_ixm (x : Int32) : k_ix 12 12 x < 13 := k_ix_le (M := 12) rfl (by decide) x
theorem k_rx_in {a b : Nat} (ha : a < 8) (hb : b < 8) : k_rx (nI a) (nI b) = 8 * a + b := by
  unfold k_rx
  have e : nI a * 8 + nI b = nI (8 * a + b) := by
    rw [show (8 : Int32) = nI 8 from rfl, pk_mul, nI_add]
    congr 1
    omega
  rw [if_neg (nI_pos (by omega)), if_pos (show nI a < 8 from nI_lt (b := 8) ha (by decide)), if_neg (nI_pos (by omega)), if_pos (show nI b < 8 from nI_lt (b := 8) hb (by decide)), e, cn_nI (by omega)]
theorem k_rx_le (a b : Int32) : k_rx a b < 65 := by
  unfold k_rx
  split
  · omega
  · rename_i h0
    split
    · rename_i h1
      split
      · omega
      · rename_i h2
        split
        · rename_i h3
          have h4 := cn_in (vp_lt h0 h1 (n := 8) rfl (by decide))
          have h5 := cn_in (vp_lt h2 h3 (n := 8) rfl (by decide))
          have e : a * 8 + b = nI (Int32.toNatClampNeg a * 8 + Int32.toNatClampNeg b) := by
            rw [← nI_cn h0, ← nI_cn h2, show (8 : Int32) = nI 8 from rfl, pk_mul, nI_add, cn_nI (by omega), cn_nI (by omega)]
          rw [e, cn_nI (by omega)]
          omega
        · omega
    · omega
theorem al_8 : Int32.ofNat 8 = 8 := by decide
theorem al_12 : Int32.ofNat 12 = 12 := by decide
theorem al_64 : Int32.ofNat 64 = 64 := by decide
theorem al_700 : Int32.ofNat 700 = 700 := by decide
theorem vM {k i : Nat} (hk : k < 15) (hi : i < 13) : ch_V k 3 i := ⟨hk, hi⟩
theorem vC {k i : Nat} (hk : k < 15) (hi : i < 9) : ch_V k 1 i := ⟨hk, hi⟩
theorem vR {k i : Nat} (hk : k < 15) (hi : i < 65) : ch_V k 2 i := ⟨hk, hi⟩
theorem vN {k : Nat} (hk : k < 15) : ch_V k 0 0 := ⟨hk, rfl⟩
set_option maxHeartbeats 100000 in
theorem c_X0_levelAt {l : Launch} {E : ch_E} {S : ch_S} {μ : ch_M} {k i : Nat} (hs : ch_Std E S) (hk : k < 15) (hi : i < 9) {x y : Int32} : ch_C E l yX0_levelAt cX0_levelAt 4 (some FieldType.int) 1 0 0 S μ [.ref (S.1 k 1 i), .int x, .int y] (ch_F (some (.int (k_lv (μ k) i x y))) S (μ)) := by
  refine ch_enter rfl rfl ?_
  intro X hl0 h hG hR hnm
  have h : ch_H X E RX0 cX0_levelAt 4 := h
  show ch_W X E 4 S μ 0 0 0 [(0, .ref (S.1 k 1 i)), (1, .int x), (2, .int y)] []
  refine ca_iload_n h dX0_levelAt_0 rfl ?_
  refine ca_aload_nr h dX0_levelAt_1 rfl ?_
  refine gi_X0_7 h (hs.1 _ _ _ (by show _ ∧ _; exact ⟨by first | assumption | rfl | omega, by first | assumption | rfl | omega⟩)) dX0_levelAt_2 ?_
  refine ca_isub h dX0_levelAt_5 ?_
  refine ca_mabs h hG rfl rfl rfl kw_555 kw_556 kw_15 kw_557 (Nat.le_of_ble_eq_true rfl) dX0_levelAt_6 ?_
  refine ca_iload_n h dX0_levelAt_9 rfl ?_
  refine ca_aload_nr h dX0_levelAt_10 rfl ?_
  refine gi_X0_19 h (hs.1 _ _ _ (by show _ ∧ _; exact ⟨by first | assumption | rfl | omega, by first | assumption | rfl | omega⟩)) dX0_levelAt_11 ?_
  refine ca_isub h dX0_levelAt_14 ?_
  refine ca_mabs h hG rfl rfl rfl kw_555 kw_556 kw_15 kw_557 (Nat.le_of_ble_eq_true rfl) dX0_levelAt_15 ?_
  refine ca_iadd h dX0_levelAt_18 ?_
  refine ca_istore_n h dX0_levelAt_19 rfl ?_
  refine ca_iconst h dX0_levelAt_20 ik_0 ?_
  refine ca_aload_nr h dX0_levelAt_21 rfl ?_
  refine gi_X0_22 h (hs.1 _ _ _ (by show _ ∧ _; exact ⟨by first | assumption | rfl | omega, by first | assumption | rfl | omega⟩)) dX0_levelAt_22 ?_
  refine ca_aload_nr h dX0_levelAt_25 rfl ?_
  refine gi_X0_25 h (hs.1 _ _ _ (by show _ ∧ _; exact ⟨by first | assumption | rfl | omega, by first | assumption | rfl | omega⟩)) dX0_levelAt_26 ?_
  refine ca_iload_n h dX0_levelAt_29 rfl ?_
  refine ca_imul h dX0_levelAt_30 ?_
  refine ca_bipush h dX0_levelAt_31 bk_100 ?_
  refine ca_idiv h dX0_levelAt_33 (by decide) ?_
  refine ca_isub h dX0_levelAt_34 ?_
  refine ca_mmax h hG rfl rfl rfl kw_558 kw_539 kw_15 kw_540 (Nat.le_of_ble_eq_true rfl) dX0_levelAt_35 ?_
  refine ca_ireturn h hR rfl dX0_levelAt_38 ?_
  exact ⟨rfl, rfl, rfl⟩
set_option maxHeartbeats 100000 in
theorem c_X3_cellAt {l : Launch} {E : ch_E} {S : ch_S} {μ : ch_M} {k : Nat} (hs : ch_Std E S) (hk : k < 15) {x : Int32} : ch_C E l yX3_cellAt cX3_cellAt 3 (some (FieldType.object "CellHandover$Cell")) 1 0 0 S μ [.ref (S.1 k 0 0), .int x] (ch_F (some (.ref (S.1 k 1 (k_ix 8 8 x)))) S (μ)) := by
  refine ch_enter rfl rfl ?_
  intro X hl0 h hG hR hnm
  have h : ch_H X E RX3 cX3_cellAt 3 := h
  show ch_W X E 3 S μ 0 0 0 [(0, .ref (S.1 k 0 0)), (1, .int x)] []
  refine ca_iload_n h dX3_cellAt_0 rfl ?_
  refine ca_if_lt (tgt := 22) h dX3_cellAt_1 (by decide) (fun c_1 => ?_) (fun c_1 => ?_)
  ·
    refine ca_null h dX3_cellAt_22 ?_
    refine ca_astore_nn h dX3_cellAt_23 rfl ?_
    refine ca_aload_nn h dX3_cellAt_24 rfl ?_
    refine ca_ifnonnullN h dX3_cellAt_25 ?_
    refine ca_aload_nr h dX3_cellAt_28 rfl ?_
    refine gs_X3_34 h hs (vN hk) dX3_cellAt_29 ?_
    refine ca_goto (tgt := 36) h dX3_cellAt_32 (by decide) ?_
    refine ca_areturn h hR dX3_cellAt_36 ?_
    exact ⟨by simp [k_ix, *], rfl, rfl⟩
  ·
    refine ca_iload_n h dX3_cellAt_4 rfl ?_
    refine ca_aload_nr h dX3_cellAt_5 rfl ?_
    refine gs_X3_11 h hs (vN hk) dX3_cellAt_6 ?_
    refine ca_alenq h rfl (by decide) (hs.1 _ _ _ ⟨hk, rfl⟩) al_8 dX3_cellAt_9 ?_
    refine ca_icmp_ge (tgt := 22) h dX3_cellAt_10 (by decide) (fun c_10 => ?_) (fun c_10 => ?_)
    ·
      refine ca_null h dX3_cellAt_22 ?_
      refine ca_astore_nn h dX3_cellAt_23 rfl ?_
      refine ca_aload_nn h dX3_cellAt_24 rfl ?_
      refine ca_ifnonnullN h dX3_cellAt_25 ?_
      refine ca_aload_nr h dX3_cellAt_28 rfl ?_
      refine gs_X3_34 h hs (vN hk) dX3_cellAt_29 ?_
      refine ca_goto (tgt := 36) h dX3_cellAt_32 (by decide) ?_
      refine ca_areturn h hR dX3_cellAt_36 ?_
      exact ⟨by simp [k_ix, *], rfl, rfl⟩
    ·
      have hin : vp_in x 8 := vp_lt c_1 c_10 rfl (by decide)
      refine ca_aload_nr h dX3_cellAt_13 rfl ?_
      refine gs_X3_11 h hs (vN hk) dX3_cellAt_14 ?_
      refine ca_iload_n h dX3_cellAt_17 rfl ?_
      refine ca_aald h rfl (by decide) rfl (hs.1 _ _ _ ⟨hk, rfl⟩) hin (hs.2.1 k 8 0 (Int32.toNatClampNeg x) _ ⟨hk, rfl⟩ (if_pos (cn_in hin))) dX3_cellAt_18 ?_
      refine ca_goto (tgt := 23) h dX3_cellAt_19 (by decide) ?_
      refine ca_astore_n h dX3_cellAt_23 rfl ?_
      refine ca_aload_nr h dX3_cellAt_24 rfl ?_
      refine ca_ifnonnull (tgt := 35) h dX3_cellAt_25 (by decide) ?_
      refine ca_aload_nr h dX3_cellAt_35 rfl ?_
      refine ca_areturn h hR dX3_cellAt_36 ?_
      exact ⟨by simp [k_ix, *], rfl, rfl⟩
set_option maxHeartbeats 100000 in
theorem c_X3_mobileAt {l : Launch} {E : ch_E} {S : ch_S} {μ : ch_M} {k : Nat} (hs : ch_Std E S) (hk : k < 15) {x : Int32} : ch_C E l yX3_mobileAt cX3_mobileAt 3 (some (FieldType.object "CellHandover$Mobile")) 1 0 0 S μ [.ref (S.1 k 0 0), .int x] (ch_F (some (.ref (S.1 k 3 (k_ix 12 12 x)))) S (μ)) := by
  refine ch_enter rfl rfl ?_
  intro X hl0 h hG hR hnm
  have h : ch_H X E RX3 cX3_mobileAt 3 := h
  show ch_W X E 3 S μ 0 0 0 [(0, .ref (S.1 k 0 0)), (1, .int x)] []
  refine ca_iload_n h dX3_mobileAt_0 rfl ?_
  refine ca_if_lt (tgt := 22) h dX3_mobileAt_1 (by decide) (fun c_1 => ?_) (fun c_1 => ?_)
  ·
    refine ca_null h dX3_mobileAt_22 ?_
    refine ca_astore_nn h dX3_mobileAt_23 rfl ?_
    refine ca_aload_nn h dX3_mobileAt_24 rfl ?_
    refine ca_ifnonnullN h dX3_mobileAt_25 ?_
    refine ca_aload_nr h dX3_mobileAt_28 rfl ?_
    refine gs_X3_44 h hs (vN hk) dX3_mobileAt_29 ?_
    refine ca_goto (tgt := 36) h dX3_mobileAt_32 (by decide) ?_
    refine ca_areturn h hR dX3_mobileAt_36 ?_
    exact ⟨by simp [k_ix, *], rfl, rfl⟩
  ·
    refine ca_iload_n h dX3_mobileAt_4 rfl ?_
    refine ca_aload_nr h dX3_mobileAt_5 rfl ?_
    refine gs_X3_25 h hs (vN hk) dX3_mobileAt_6 ?_
    refine ca_alenq h rfl (by decide) (hs.1 _ _ _ ⟨hk, rfl⟩) al_12 dX3_mobileAt_9 ?_
    refine ca_icmp_ge (tgt := 22) h dX3_mobileAt_10 (by decide) (fun c_10 => ?_) (fun c_10 => ?_)
    ·
      refine ca_null h dX3_mobileAt_22 ?_
      refine ca_astore_nn h dX3_mobileAt_23 rfl ?_
      refine ca_aload_nn h dX3_mobileAt_24 rfl ?_
      refine ca_ifnonnullN h dX3_mobileAt_25 ?_
      refine ca_aload_nr h dX3_mobileAt_28 rfl ?_
      refine gs_X3_44 h hs (vN hk) dX3_mobileAt_29 ?_
      refine ca_goto (tgt := 36) h dX3_mobileAt_32 (by decide) ?_
      refine ca_areturn h hR dX3_mobileAt_36 ?_
      exact ⟨by simp [k_ix, *], rfl, rfl⟩
    ·
      have hin : vp_in x 12 := vp_lt c_1 c_10 rfl (by decide)
      refine ca_aload_nr h dX3_mobileAt_13 rfl ?_
      refine gs_X3_25 h hs (vN hk) dX3_mobileAt_14 ?_
      refine ca_iload_n h dX3_mobileAt_17 rfl ?_
      refine ca_aald h rfl (by decide) rfl (hs.1 _ _ _ ⟨hk, rfl⟩) hin (hs.2.1 k 10 0 (Int32.toNatClampNeg x) _ ⟨hk, rfl⟩ (if_pos (cn_in hin))) dX3_mobileAt_18 ?_
      refine ca_goto (tgt := 23) h dX3_mobileAt_19 (by decide) ?_
      refine ca_astore_n h dX3_mobileAt_23 rfl ?_
      refine ca_aload_nr h dX3_mobileAt_24 rfl ?_
      refine ca_ifnonnull (tgt := 35) h dX3_mobileAt_25 (by decide) ?_
      refine ca_aload_nr h dX3_mobileAt_35 rfl ?_
      refine ca_areturn h hR dX3_mobileAt_36 ?_
      exact ⟨by simp [k_ix, *], rfl, rfl⟩
set_option maxHeartbeats 100000 in
theorem c_X3_relationAt {l : Launch} {E : ch_E} {S : ch_S} {μ : ch_M} {k : Nat} (hs : ch_Std E S) (hk : k < 15) {x y : Int32} : ch_C E l yX3_relationAt cX3_relationAt 5 (some (FieldType.object "CellHandover$Relation")) 1 0 0 S μ [.ref (S.1 k 0 0), .int x, .int y] (ch_F (some (.ref (S.1 k 2 (k_rx x y)))) S (μ)) := by
  refine ch_enter rfl rfl ?_
  intro X hl0 h hG hR hnm
  have h : ch_H X E RX3 cX3_relationAt 5 := h
  show ch_W X E 5 S μ 0 0 0 [(0, .ref (S.1 k 0 0)), (1, .int x), (2, .int y)] []
  refine ca_iload_n h dX3_relationAt_0 rfl ?_
  refine ca_if_lt (tgt := 20) h dX3_relationAt_1 (by decide) (fun c_1 => ?_) (fun c_1 => ?_)
  ·
    refine ca_aload_nr h dX3_relationAt_20 rfl ?_
    refine gs_X3_39 h hs (vN hk) dX3_relationAt_21 ?_
    refine ca_areturn h hR dX3_relationAt_24 ?_
    exact ⟨by simp [k_rx, *], rfl, rfl⟩
  ·
    refine ca_iload_n h dX3_relationAt_4 rfl ?_
    refine ca_bipush h dX3_relationAt_5 bk_8 ?_
    refine ca_icmp_ge (tgt := 20) h dX3_relationAt_7 (by decide) (fun c_7 => ?_) (fun c_7 => ?_)
    ·
      refine ca_aload_nr h dX3_relationAt_20 rfl ?_
      refine gs_X3_39 h hs (vN hk) dX3_relationAt_21 ?_
      refine ca_areturn h hR dX3_relationAt_24 ?_
      exact ⟨by simp [k_rx, *], rfl, rfl⟩
    ·
      refine ca_iload_n h dX3_relationAt_10 rfl ?_
      refine ca_if_lt (tgt := 20) h dX3_relationAt_11 (by decide) (fun c_11 => ?_) (fun c_11 => ?_)
      ·
        refine ca_aload_nr h dX3_relationAt_20 rfl ?_
        refine gs_X3_39 h hs (vN hk) dX3_relationAt_21 ?_
        refine ca_areturn h hR dX3_relationAt_24 ?_
        exact ⟨by simp [k_rx, *], rfl, rfl⟩
      ·
        refine ca_iload_n h dX3_relationAt_14 rfl ?_
        refine ca_bipush h dX3_relationAt_15 bk_8 ?_
        refine ca_icmp_lt (tgt := 25) h dX3_relationAt_17 (by decide) (fun c_17 => ?_) (fun c_17 => ?_)
        ·
          obtain ⟨a, ha, rfl⟩ := vp_in_of (vp_lt c_1 c_7 (n := 8) rfl (by decide)) (by decide)
          obtain ⟨b, hb, rfl⟩ := vp_in_of (vp_lt c_11 c_17 (n := 8) rfl (by decide)) (by decide)
          have e : nI a * 8 + nI b = nI (8 * a + b) := by rw [show (8 : Int32) = nI 8 from rfl, pk_mul, nI_add]; congr 1; omega
          have hin : vp_in (nI a * 8 + nI b) 64 := by rw [e]; exact vp_in_nI (by omega) (by decide)
          refine ca_iload_n h dX3_relationAt_25 rfl ?_
          refine ca_bipush h dX3_relationAt_26 bk_8 ?_
          refine ca_imul h dX3_relationAt_28 ?_
          refine ca_iload_n h dX3_relationAt_29 rfl ?_
          refine ca_iadd h dX3_relationAt_30 ?_
          refine ca_istore_n h dX3_relationAt_31 rfl ?_
          refine ca_iload_n h dX3_relationAt_32 rfl ?_
          refine ca_aload_nr h dX3_relationAt_33 rfl ?_
          refine gs_X3_19 h hs (vN hk) dX3_relationAt_34 ?_
          refine ca_alenq h rfl (by decide) (hs.1 _ _ _ ⟨hk, rfl⟩) al_64 dX3_relationAt_37 ?_
          refine ca_icmp_ge (tgt := 50) h dX3_relationAt_38 (by decide) (fun c_38 => ?_) (fun c_38 => ?_)
          · exact absurd (by rw [e]; exact nI_lt (b := 64) (by omega) (by decide)) c_38
          ·
            refine ca_aload_nr h dX3_relationAt_41 rfl ?_
            refine gs_X3_19 h hs (vN hk) dX3_relationAt_42 ?_
            refine ca_iload_n h dX3_relationAt_45 rfl ?_
            refine ca_aald h rfl (by decide) rfl (hs.1 _ _ _ ⟨hk, rfl⟩) hin (hs.2.1 k 9 0 (Int32.toNatClampNeg (nI a * 8 + nI b)) _ ⟨hk, rfl⟩ (if_pos (cn_in hin))) dX3_relationAt_46 ?_
            refine ca_goto (tgt := 51) h dX3_relationAt_47 (by decide) ?_
            refine ca_astore h dX3_relationAt_51 rfl ?_
            refine ca_aload h dX3_relationAt_53 rfl ?_
            refine ca_ifnonnull (tgt := 65) h dX3_relationAt_55 (by decide) ?_
            refine ca_aload h dX3_relationAt_65 rfl ?_
            refine ca_areturn h hR dX3_relationAt_67 ?_
            exact ⟨by simp [k_rx, *], rfl, rfl⟩
        ·
          refine ca_aload_nr h dX3_relationAt_20 rfl ?_
          refine gs_X3_39 h hs (vN hk) dX3_relationAt_21 ?_
          refine ca_areturn h hR dX3_relationAt_24 ?_
          exact ⟨by simp [k_rx, *], rfl, rfl⟩
/-- a counted fold -/
def kf {α : Type} (f : Nat → α → α) : Nat → α → α
  | 0, x => x
  | n + 1, x => f n (kf f n x)
theorem kf_congr {α : Type} {f g : Nat → α → α} : ∀ (n : Nat) (x : α), (∀ i y, i < n → f i y = g i y) → kf f n x = kf g n x
  | 0, _, _ => rfl
  | n + 1, x, h => by
    show f n (kf f n x) = g n (kf g n x)
    rw [kf_congr n x (fun i y hi => h i y (Nat.lt_succ_of_lt hi)), h n _ (Nat.lt_succ_self n)]
theorem kf_inv {α : Type} {f : Nat → α → α} {P : α → Prop} : ∀ (n : Nat) (x : α), P x → (∀ i y, i < n → P y → P (f i y)) → P (kf f n x)
  | 0, _, h, _ => h
  | n + 1, x, h, hs => hs n _ (Nat.lt_succ_self n) (kf_inv n x h (fun i y hi => hs i y (Nat.lt_succ_of_lt hi)))
/-- the first place below N, j places to go, that p takes; else -1 -/
def kq (p : Nat → Bool) (N : Nat) : Nat → Int32
  | 0 => -1
  | j + 1 => if p (N - (j + 1)) = true then nI (N - (j + 1)) else kq p N j
theorem kq_yes {p : Nat → Bool} {N n j : Nat} (h : n + (j + 1) = N) (hp : p n = true) : kq p N (j + 1) = nI n := by
  rw [kq, show N - (j + 1) = n by omega, if_pos hp]
theorem kq_no {p : Nat → Bool} {N n j : Nat} (h : n + (j + 1) = N) (hp : ¬ p n = true) : kq p N (j + 1) = kq p N j := by
  rw [kq, show N - (j + 1) = n by omega, if_neg hp]
/-- how many mobiles, cells there are -/
def k_mc (n : ch_N) : Nat := Int32.toNatClampNeg (n 0 0 2)
def k_cc (n : ch_N) : Nat := Int32.toNatClampNeg (n 0 0 0)
theorem lt_no {x : Int32} {n N : Nat} (hN : N = Int32.toNatClampNeg x) (hn : n = N) : ¬ nI n < x := fun z => by
  have := (lt_cn (x := x) (n := n) (by omega)).mp z
  omega
theorem lt_yes {x : Int32} {n N : Nat} (hN : N = Int32.toNatClampNeg x) (hn : n < N) : nI n < x := (lt_cn (x := x) (n := n) (by omega)).mpr (by omega)
/-- how many talk in a cell; how many requests it has -/
def k_tk (n : ch_N) (c : Int32) : Int32 := kf (fun i r => if n 3 i 4 = 1 ∧ n 3 i 5 = c then r + 1 else r) (k_mc n) 0
def k_rq (n : ch_N) (c : Int32) : Int32 := kf (fun i r => if n 3 i 8 = c then r + 1 else r) (k_mc n) 0
def k_free (n : ch_N) (c : Int32) : Bool := decide (k_tk n c < n 1 (k_ix 8 8 c) 4)
def k_place (n : ch_N) (c : Int32) : Bool := decide (k_rq n c < n 1 (k_ix 8 8 c) 5)
def k_cb (n : ch_N) (i j : Nat) : Bool := if n 3 i 4 = n 3 j 4 then (if n 3 i 9 = n 3 j 9 then decide (nI i < nI j) else decide (n 3 i 9 < n 3 j 9)) else decide (n 3 i 4 = 1)
def k_rb (n : ch_N) (j : Nat) : Int32 := kf (fun i r => if n 3 i 8 = n 3 j 8 ∧ k_cb n i j = true then r + 1 else r) (k_mc n) 0
def k_qm (n : ch_N) (c x : Int32) : Int32 := kq (fun i => decide (n 3 i 8 = c ∧ k_rb n i = x)) (k_mc n) (k_mc n)
def k_ld (n : ch_N) (x y : Int32) : Nat → Int32 × Int32 := fun N => kf (fun c r => if r.2 < k_lv n c x y then (nI c, k_lv n c x y) else r) N (-1, -1)
def k_use (n : ch_N) (c x y : Int32) : Bool := !decide (k_lv n (k_ix 8 8 c) x y < n 1 (k_ix 8 8 c) 6)
def k_cov (n : ch_N) (x y : Int32) : Int32 := if (k_ld n x y (k_cc n)).1 = -1 then -1 else if k_use n (k_ld n x y (k_cc n)).1 x y = true then (k_ld n x y (k_cc n)).1 else -1
def k_rc (n : ch_N) (s x y : Int32) : Nat → Int32 × Int32 := fun N => kf (fun c r => if ¬ n 2 (k_rx s (nI c)) 0 = 0 ∧ r.2 < k_lv n c x y ∧ k_use n (nI c) x y = true ∧ k_free n (nI c) = true then (nI c, k_lv n c x y) else r) N (-1, -1)
def k_tot (n : ch_N) (x : Int32) : Int32 := if x < 0 then -1 else if x < 8 then n 7 0 (Int32.toNatClampNeg x) else -1
def k_cnt (n : ch_N) (j : Nat) : ch_N := nw n 7 0 j (n 7 0 j + 1)
theorem k_mob {j : Nat} (h : j < 12) : k_ix 12 12 (nI j) = j := k_ix_in (M := 12) rfl (by decide) h
theorem k_cel {j : Nat} (h : j < 8) : k_ix 8 8 (nI j) = j := k_ix_in (M := 8) rfl (by decide) h
theorem c_X3_mobileJ {l : Launch} {E : ch_E} {S : ch_S} {μ : ch_M} {k j : Nat} (hs : ch_Std E S) (hk : k < 15) (hj : j < 12) : ch_C E l yX3_mobileAt cX3_mobileAt 3 (some (FieldType.object "CellHandover$Mobile")) 1 0 0 S μ [.ref (S.1 k 0 0), .int (nI j)] (ch_F (some (.ref (S.1 k 3 j))) S μ) := by
  have h := c_X3_mobileAt (l := l) (μ := μ) hs hk (x := nI j)
  rw [k_mob hj] at h
  exact h
theorem c_X3_cellJ {l : Launch} {E : ch_E} {S : ch_S} {μ : ch_M} {k j : Nat} (hs : ch_Std E S) (hk : k < 15) (hj : j < 8) : ch_C E l yX3_cellAt cX3_cellAt 3 (some (FieldType.object "CellHandover$Cell")) 1 0 0 S μ [.ref (S.1 k 0 0), .int (nI j)] (ch_F (some (.ref (S.1 k 1 j))) S μ) := by
  have h := c_X3_cellAt (l := l) (μ := μ) hs hk (x := nI j)
  rw [k_cel hj] at h
  exact h
set_option maxHeartbeats 100000 in
theorem c_X3_talkersIn {l : Launch} {E : ch_E} {S : ch_S} {μ : ch_M} {k : Nat} (hs : ch_Std E S) (hk : k < 15) (hm : k_mc (μ k) ≤ 12) {c : Int32} : ch_C E l yX3_talkersIn cX3_talkersIn 5 (some FieldType.int) 2 0 0 S μ [.ref (S.1 k 0 0), .int c] (ch_F (some (.int (k_tk (μ k) c))) S (μ)) := by
  refine ch_enter rfl rfl ?_
  intro X hl0 h hG hR hnm
  have h : ch_H X E RX3 cX3_talkersIn 5 := h
  show ch_W X E 5 S μ 0 0 0 [(0, .ref (S.1 k 0 0)), (1, .int c)] []
  refine ca_iconst h dX3_talkersIn_0 ik_0 ?_
  refine ca_istore_n h dX3_talkersIn_1 rfl ?_
  refine ca_iconst h dX3_talkersIn_2 ik_0 ?_
  refine ca_istore_n h dX3_talkersIn_3 rfl ?_
  have loop_4 : ∀ (jj n : Nat), n + jj = k_mc (μ k) → ∀ (x2 : Int32) (e2 : x2 = kf (fun i r => if (μ k) 3 i 4 = 1 ∧ (μ k) 3 i 5 = c then r + 1 else r) n 0) (x3 : Int32) (e3 : x3 = nI n), ch_W X E 5 S μ 0 0 4 [(0, .ref (S.1 k 0 0)), (1, .int c), (2, .int x2), (3, .int x3)] [] := by
    intro jj
    induction jj with
    | zero =>
      intro n hn x2 e2 x3 e3
      have hn : n = k_mc (μ k) := by omega
      subst e2 e3
      refine ca_iload_n h dX3_talkersIn_4 rfl ?_
      refine ca_aload_nr h dX3_talkersIn_5 rfl ?_
      refine gi_X3_76 h (hs.1 _ _ _ (by show _ ∧ _; exact ⟨by first | assumption | rfl | omega, by first | assumption | rfl | omega⟩)) dX3_talkersIn_6 ?_
      refine ca_icmp_ge (tgt := 46) h dX3_talkersIn_9 (by decide) (fun c_9 => ?_) (fun c_9 => ?_)
      ·
        refine ca_iload_n h dX3_talkersIn_46 rfl ?_
        refine ca_ireturn h hR rfl dX3_talkersIn_47 ?_
        exact ⟨by rw [hn]; rfl, rfl, rfl⟩
      · exact absurd c_9 (lt_no rfl hn)
    | succ jj ih_4 =>
      intro n hn x2 e2 x3 e3
      have hn1 : n < k_mc (μ k) := by omega
      subst e2 e3
      refine ca_iload_n h dX3_talkersIn_4 rfl ?_
      refine ca_aload_nr h dX3_talkersIn_5 rfl ?_
      refine gi_X3_76 h (hs.1 _ _ _ (by show _ ∧ _; exact ⟨by first | assumption | rfl | omega, by first | assumption | rfl | omega⟩)) dX3_talkersIn_6 ?_
      refine ca_icmp_ge (tgt := 46) h dX3_talkersIn_9 (by decide) (fun c_9 => ?_) (fun c_9 => ?_)
      · exact absurd (lt_yes rfl hn1) c_9
      ·
        refine ca_aload_nr h dX3_talkersIn_12 rfl ?_
        refine ca_iload_n h dX3_talkersIn_13 rfl ?_
        refine ca_vr h hG ml_X3_106 (c_X3_mobileJ hs hk (by omega)) (ci := 3) rfl rfl rfl (hs.1 _ _ _ (by show _ ∧ _; exact ⟨by first | assumption | rfl | omega, by first | assumption | rfl | omega⟩)) rfl rfl rfl rfl ⟨Nat.le_refl _, Nat.le_refl _⟩ rfl dX3_talkersIn_14 ?_
        refine ca_astore h dX3_talkersIn_17 rfl ?_
        refine ca_aload h dX3_talkersIn_19 rfl ?_
        refine gi_X3_131 h (hs.1 _ _ _ (by show _ ∧ _; exact ⟨by first | assumption | rfl | omega, by first | assumption | rfl | omega⟩)) dX3_talkersIn_21 ?_
        refine ca_iconst h dX3_talkersIn_24 ik_1 ?_
        refine ca_icmp_ne (tgt := 40) h dX3_talkersIn_25 (by decide) (fun c_25 => ?_) (fun c_25 => ?_)
        ·
          refine ca_iinc h dX3_talkersIn_40 rfl ik_1 rfl ?_
          refine ca_goto (tgt := 4) h dX3_talkersIn_43 (by decide) ?_
          refine ca_pick [2, 3, 4, 0] rfl ?_
          exact ih_4 (n + 1) (by omega) _ (by simp [kf, c_9, c_25]) _ (nI_1 n)
        ·
          refine ca_aload h dX3_talkersIn_28 rfl ?_
          refine gi_X3_134 h (hs.1 _ _ _ (by show _ ∧ _; exact ⟨by first | assumption | rfl | omega, by first | assumption | rfl | omega⟩)) dX3_talkersIn_30 ?_
          refine ca_iload_n h dX3_talkersIn_33 rfl ?_
          refine ca_icmp_ne (tgt := 40) h dX3_talkersIn_34 (by decide) (fun c_34 => ?_) (fun c_34 => ?_)
          ·
            refine ca_iinc h dX3_talkersIn_40 rfl ik_1 rfl ?_
            refine ca_goto (tgt := 4) h dX3_talkersIn_43 (by decide) ?_
            refine ca_pick [2, 3, 4, 0] rfl ?_
            exact ih_4 (n + 1) (by omega) _ (by simp [kf, c_9, c_25, c_34]) _ (nI_1 n)
          ·
            refine ca_iinc h dX3_talkersIn_37 rfl ik_1 rfl ?_
            refine ca_iinc h dX3_talkersIn_40 rfl ik_1 rfl ?_
            refine ca_goto (tgt := 4) h dX3_talkersIn_43 (by decide) ?_
            refine ca_pick [3, 4, 1, 0] rfl ?_
            exact ih_4 (n + 1) (by omega) _ (by simp [kf, c_9, c_25, c_34]) _ (nI_1 n)
  refine ca_pick [2, 3, 1, 0] rfl ?_
  exact loop_4 _ 0 (Nat.zero_add _) _ rfl _ rfl
set_option maxHeartbeats 100000 in
theorem c_X3_requestsAt {l : Launch} {E : ch_E} {S : ch_S} {μ : ch_M} {k : Nat} (hs : ch_Std E S) (hk : k < 15) (hm : k_mc (μ k) ≤ 12) {c : Int32} : ch_C E l yX3_requestsAt cX3_requestsAt 4 (some FieldType.int) 2 0 0 S μ [.ref (S.1 k 0 0), .int c] (ch_F (some (.int (k_rq (μ k) c))) S (μ)) := by
  refine ch_enter rfl rfl ?_
  intro X hl0 h hG hR hnm
  have h : ch_H X E RX3 cX3_requestsAt 4 := h
  show ch_W X E 4 S μ 0 0 0 [(0, .ref (S.1 k 0 0)), (1, .int c)] []
  refine ca_iconst h dX3_requestsAt_0 ik_0 ?_
  refine ca_istore_n h dX3_requestsAt_1 rfl ?_
  refine ca_iconst h dX3_requestsAt_2 ik_0 ?_
  refine ca_istore_n h dX3_requestsAt_3 rfl ?_
  have loop_4 : ∀ (jj n : Nat), n + jj = k_mc (μ k) → ∀ (x2 : Int32) (e2 : x2 = kf (fun i r => if (μ k) 3 i 8 = c then r + 1 else r) n 0) (x3 : Int32) (e3 : x3 = nI n), ch_W X E 4 S μ 0 0 4 [(0, .ref (S.1 k 0 0)), (1, .int c), (2, .int x2), (3, .int x3)] [] := by
    intro jj
    induction jj with
    | zero =>
      intro n hn x2 e2 x3 e3
      have hn : n = k_mc (μ k) := by omega
      subst e2 e3
      refine ca_iload_n h dX3_requestsAt_4 rfl ?_
      refine ca_aload_nr h dX3_requestsAt_5 rfl ?_
      refine gi_X3_76 h (hs.1 _ _ _ (by show _ ∧ _; exact ⟨by first | assumption | rfl | omega, by first | assumption | rfl | omega⟩)) dX3_requestsAt_6 ?_
      refine ca_icmp_ge (tgt := 33) h dX3_requestsAt_9 (by decide) (fun c_9 => ?_) (fun c_9 => ?_)
      ·
        refine ca_iload_n h dX3_requestsAt_33 rfl ?_
        refine ca_ireturn h hR rfl dX3_requestsAt_34 ?_
        exact ⟨by rw [hn]; rfl, rfl, rfl⟩
      · exact absurd c_9 (lt_no rfl hn)
    | succ jj ih_4 =>
      intro n hn x2 e2 x3 e3
      have hn1 : n < k_mc (μ k) := by omega
      subst e2 e3
      refine ca_iload_n h dX3_requestsAt_4 rfl ?_
      refine ca_aload_nr h dX3_requestsAt_5 rfl ?_
      refine gi_X3_76 h (hs.1 _ _ _ (by show _ ∧ _; exact ⟨by first | assumption | rfl | omega, by first | assumption | rfl | omega⟩)) dX3_requestsAt_6 ?_
      refine ca_icmp_ge (tgt := 33) h dX3_requestsAt_9 (by decide) (fun c_9 => ?_) (fun c_9 => ?_)
      · exact absurd (lt_yes rfl hn1) c_9
      ·
        refine ca_aload_nr h dX3_requestsAt_12 rfl ?_
        refine ca_iload_n h dX3_requestsAt_13 rfl ?_
        refine ca_vr h hG ml_X3_106 (c_X3_mobileJ hs hk (by omega)) (ci := 3) rfl rfl rfl (hs.1 _ _ _ (by show _ ∧ _; exact ⟨by first | assumption | rfl | omega, by first | assumption | rfl | omega⟩)) rfl rfl rfl rfl ⟨Nat.le_refl _, Nat.le_refl _⟩ rfl dX3_requestsAt_14 ?_
        refine gi_X3_144 h (hs.1 _ _ _ (by show _ ∧ _; exact ⟨by first | assumption | rfl | omega, by first | assumption | rfl | omega⟩)) dX3_requestsAt_17 ?_
        refine ca_iload_n h dX3_requestsAt_20 rfl ?_
        refine ca_icmp_ne (tgt := 27) h dX3_requestsAt_21 (by decide) (fun c_21 => ?_) (fun c_21 => ?_)
        ·
          refine ca_iinc h dX3_requestsAt_27 rfl ik_1 rfl ?_
          refine ca_goto (tgt := 4) h dX3_requestsAt_30 (by decide) ?_
          refine ca_pick [1, 2, 3, 0] rfl ?_
          exact ih_4 (n + 1) (by omega) _ (by simp [kf, c_9, c_21]) _ (nI_1 n)
        ·
          refine ca_iinc h dX3_requestsAt_24 rfl ik_1 rfl ?_
          refine ca_iinc h dX3_requestsAt_27 rfl ik_1 rfl ?_
          refine ca_goto (tgt := 4) h dX3_requestsAt_30 (by decide) ?_
          refine ca_pick [2, 3, 1, 0] rfl ?_
          exact ih_4 (n + 1) (by omega) _ (by simp [kf, c_9, c_21]) _ (nI_1 n)
  refine ca_pick [2, 3, 1, 0] rfl ?_
  exact loop_4 _ 0 (Nat.zero_add _) _ rfl _ rfl
set_option maxHeartbeats 100000 in
theorem c_X3_hasFreeChannel {l : Launch} {E : ch_E} {S : ch_S} {μ : ch_M} {k : Nat} (hs : ch_Std E S) (hk : k < 15) (hm : k_mc (μ k) ≤ 12) {c : Int32} : ch_C E l yX3_hasFreeChannel cX3_hasFreeChannel 2 (some FieldType.boolean) 3 0 0 S μ [.ref (S.1 k 0 0), .int c] (ch_F (some (.int (bI (k_free (μ k) c)))) S (μ)) := by
  refine ch_enter rfl rfl ?_
  intro X hl0 h hG hR hnm
  have h : ch_H X E RX3 cX3_hasFreeChannel 2 := h
  show ch_W X E 2 S μ 0 0 0 [(0, .ref (S.1 k 0 0)), (1, .int c)] []
  refine ca_aload_nr h dX3_hasFreeChannel_0 rfl ?_
  refine ca_iload_n h dX3_hasFreeChannel_1 rfl ?_
  refine ca_vi h hG ml_X3_137 (c_X3_talkersIn hs hk (by assumption)) (ci := 3) rfl rfl rfl (hs.1 _ _ _ (by show _ ∧ _; exact ⟨by first | assumption | rfl | omega, by first | assumption | rfl | omega⟩)) rfl rfl rfl rfl ⟨Nat.le_refl _, Nat.le_refl _⟩ rfl dX3_hasFreeChannel_2 ?_
  refine ca_aload_nr h dX3_hasFreeChannel_5 rfl ?_
  refine ca_iload_n h dX3_hasFreeChannel_6 rfl ?_
  refine ca_vr h hG ml_X3_95 (c_X3_cellAt hs (by assumption)) (ci := 3) rfl rfl rfl (hs.1 _ _ _ (by show _ ∧ _; exact ⟨by first | assumption | rfl | omega, by first | assumption | rfl | omega⟩)) rfl rfl rfl rfl ⟨Nat.le_refl _, Nat.le_refl _⟩ rfl dX3_hasFreeChannel_7 ?_
  refine gi_X3_141 h (hs.1 _ _ _ (vC hk (k_ixc _))) dX3_hasFreeChannel_10 ?_
  refine ca_icmp_ge (tgt := 20) h dX3_hasFreeChannel_13 (by decide) (fun c_13 => ?_) (fun c_13 => ?_)
  ·
    refine ca_iconst h dX3_hasFreeChannel_20 ik_0 ?_
    refine ca_ireturn h hR rfl dX3_hasFreeChannel_21 ?_
    exact ⟨by simp [k_free, bI, c_13], rfl, rfl⟩
  ·
    refine ca_iconst h dX3_hasFreeChannel_16 ik_1 ?_
    refine ca_goto (tgt := 21) h dX3_hasFreeChannel_17 (by decide) ?_
    refine ca_ireturn h hR rfl dX3_hasFreeChannel_21 ?_
    exact ⟨by simp [k_free, bI, c_13], rfl, rfl⟩
set_option maxHeartbeats 100000 in
theorem c_X3_hasQueuePlace {l : Launch} {E : ch_E} {S : ch_S} {μ : ch_M} {k : Nat} (hs : ch_Std E S) (hk : k < 15) (hm : k_mc (μ k) ≤ 12) {c : Int32} : ch_C E l yX3_hasQueuePlace cX3_hasQueuePlace 2 (some FieldType.boolean) 3 0 0 S μ [.ref (S.1 k 0 0), .int c] (ch_F (some (.int (bI (k_place (μ k) c)))) S (μ)) := by
  refine ch_enter rfl rfl ?_
  intro X hl0 h hG hR hnm
  have h : ch_H X E RX3 cX3_hasQueuePlace 2 := h
  show ch_W X E 2 S μ 0 0 0 [(0, .ref (S.1 k 0 0)), (1, .int c)] []
  refine ca_aload_nr h dX3_hasQueuePlace_0 rfl ?_
  refine ca_iload_n h dX3_hasQueuePlace_1 rfl ?_
  refine ca_vi h hG ml_X3_147 (c_X3_requestsAt hs hk (by assumption)) (ci := 3) rfl rfl rfl (hs.1 _ _ _ (by show _ ∧ _; exact ⟨by first | assumption | rfl | omega, by first | assumption | rfl | omega⟩)) rfl rfl rfl rfl ⟨Nat.le_refl _, Nat.le_refl _⟩ rfl dX3_hasQueuePlace_2 ?_
  refine ca_aload_nr h dX3_hasQueuePlace_5 rfl ?_
  refine ca_iload_n h dX3_hasQueuePlace_6 rfl ?_
  refine ca_vr h hG ml_X3_95 (c_X3_cellAt hs (by assumption)) (ci := 3) rfl rfl rfl (hs.1 _ _ _ (by show _ ∧ _; exact ⟨by first | assumption | rfl | omega, by first | assumption | rfl | omega⟩)) rfl rfl rfl rfl ⟨Nat.le_refl _, Nat.le_refl _⟩ rfl dX3_hasQueuePlace_7 ?_
  refine gi_X3_150 h (hs.1 _ _ _ (vC hk (k_ixc _))) dX3_hasQueuePlace_10 ?_
  refine ca_icmp_ge (tgt := 20) h dX3_hasQueuePlace_13 (by decide) (fun c_13 => ?_) (fun c_13 => ?_)
  ·
    refine ca_iconst h dX3_hasQueuePlace_20 ik_0 ?_
    refine ca_ireturn h hR rfl dX3_hasQueuePlace_21 ?_
    exact ⟨by simp [k_place, bI, c_13], rfl, rfl⟩
  ·
    refine ca_iconst h dX3_hasQueuePlace_16 ik_1 ?_
    refine ca_goto (tgt := 21) h dX3_hasQueuePlace_17 (by decide) ?_
    refine ca_ireturn h hR rfl dX3_hasQueuePlace_21 ?_
    exact ⟨by simp [k_place, bI, c_13], rfl, rfl⟩
set_option maxHeartbeats 100000 in
theorem c_X3_comesBefore {l : Launch} {E : ch_E} {S : ch_S} {μ : ch_M} {k i j : Nat} (hs : ch_Std E S) (hk : k < 15) (hi : i < 12) (hj : j < 12) : ch_C E l yX3_comesBefore cX3_comesBefore 5 (some FieldType.boolean) 2 0 0 S μ [.ref (S.1 k 0 0), .int (nI i), .int (nI j)] (ch_F (some (.int (bI (k_cb (μ k) i j)))) S (μ)) := by
  refine ch_enter rfl rfl ?_
  intro X hl0 h hG hR hnm
  have h : ch_H X E RX3 cX3_comesBefore 5 := h
  show ch_W X E 5 S μ 0 0 0 [(0, .ref (S.1 k 0 0)), (1, .int (nI i)), (2, .int (nI j))] []
  refine ca_aload_nr h dX3_comesBefore_0 rfl ?_
  refine ca_iload_n h dX3_comesBefore_1 rfl ?_
  refine ca_vr h hG ml_X3_106 (c_X3_mobileJ hs hk (by omega)) (ci := 3) rfl rfl rfl (hs.1 _ _ _ (by show _ ∧ _; exact ⟨by first | assumption | rfl | omega, by first | assumption | rfl | omega⟩)) rfl rfl rfl rfl ⟨Nat.le_refl _, Nat.le_refl _⟩ rfl dX3_comesBefore_2 ?_
  refine ca_astore_n h dX3_comesBefore_5 rfl ?_
  refine ca_aload_nr h dX3_comesBefore_6 rfl ?_
  refine ca_iload_n h dX3_comesBefore_7 rfl ?_
  refine ca_vr h hG ml_X3_106 (c_X3_mobileJ hs hk (by omega)) (ci := 3) rfl rfl rfl (hs.1 _ _ _ (by show _ ∧ _; exact ⟨by first | assumption | rfl | omega, by first | assumption | rfl | omega⟩)) rfl rfl rfl rfl ⟨Nat.le_refl _, Nat.le_refl _⟩ rfl dX3_comesBefore_8 ?_
  refine ca_astore h dX3_comesBefore_11 rfl ?_
  refine ca_aload_nr h dX3_comesBefore_13 rfl ?_
  refine gi_X3_131 h (hs.1 _ _ _ (by show _ ∧ _; exact ⟨by first | assumption | rfl | omega, by first | assumption | rfl | omega⟩)) dX3_comesBefore_14 ?_
  refine ca_aload h dX3_comesBefore_17 rfl ?_
  refine gi_X3_131 h (hs.1 _ _ _ (by show _ ∧ _; exact ⟨by first | assumption | rfl | omega, by first | assumption | rfl | omega⟩)) dX3_comesBefore_19 ?_
  refine ca_icmp_eq (tgt := 39) h dX3_comesBefore_22 (by decide) (fun c_22 => ?_) (fun c_22 => ?_)
  ·
    refine ca_aload_nr h dX3_comesBefore_39 rfl ?_
    refine gi_X3_160 h (hs.1 _ _ _ (by show _ ∧ _; exact ⟨by first | assumption | rfl | omega, by first | assumption | rfl | omega⟩)) dX3_comesBefore_40 ?_
    refine ca_aload h dX3_comesBefore_43 rfl ?_
    refine gi_X3_160 h (hs.1 _ _ _ (by show _ ∧ _; exact ⟨by first | assumption | rfl | omega, by first | assumption | rfl | omega⟩)) dX3_comesBefore_45 ?_
    refine ca_icmp_eq (tgt := 69) h dX3_comesBefore_48 (by decide) (fun c_48 => ?_) (fun c_48 => ?_)
    ·
      refine ca_iload_n h dX3_comesBefore_69 rfl ?_
      refine ca_iload_n h dX3_comesBefore_70 rfl ?_
      refine ca_icmp_ge (tgt := 78) h dX3_comesBefore_71 (by decide) (fun c_71 => ?_) (fun c_71 => ?_)
      ·
        refine ca_iconst h dX3_comesBefore_78 ik_0 ?_
        refine ca_ireturn h hR rfl dX3_comesBefore_79 ?_
        exact ⟨by congr 2; unfold k_cb bI; (repeat' split) <;> simp_all [-Int32.not_lt], rfl, rfl⟩
      ·
        refine ca_iconst h dX3_comesBefore_74 ik_1 ?_
        refine ca_goto (tgt := 79) h dX3_comesBefore_75 (by decide) ?_
        refine ca_ireturn h hR rfl dX3_comesBefore_79 ?_
        exact ⟨by congr 2; unfold k_cb bI; (repeat' split) <;> simp_all [-Int32.not_lt], rfl, rfl⟩
    ·
      refine ca_aload_nr h dX3_comesBefore_51 rfl ?_
      refine gi_X3_160 h (hs.1 _ _ _ (by show _ ∧ _; exact ⟨by first | assumption | rfl | omega, by first | assumption | rfl | omega⟩)) dX3_comesBefore_52 ?_
      refine ca_aload h dX3_comesBefore_55 rfl ?_
      refine gi_X3_160 h (hs.1 _ _ _ (by show _ ∧ _; exact ⟨by first | assumption | rfl | omega, by first | assumption | rfl | omega⟩)) dX3_comesBefore_57 ?_
      refine ca_icmp_ge (tgt := 67) h dX3_comesBefore_60 (by decide) (fun c_60 => ?_) (fun c_60 => ?_)
      ·
        refine ca_iconst h dX3_comesBefore_67 ik_0 ?_
        refine ca_ireturn h hR rfl dX3_comesBefore_68 ?_
        exact ⟨by congr 2; unfold k_cb bI; (repeat' split) <;> simp_all [-Int32.not_lt], rfl, rfl⟩
      ·
        refine ca_iconst h dX3_comesBefore_63 ik_1 ?_
        refine ca_goto (tgt := 68) h dX3_comesBefore_64 (by decide) ?_
        refine ca_ireturn h hR rfl dX3_comesBefore_68 ?_
        exact ⟨by congr 2; unfold k_cb bI; (repeat' split) <;> simp_all [-Int32.not_lt], rfl, rfl⟩
  ·
    refine ca_aload_nr h dX3_comesBefore_25 rfl ?_
    refine gi_X3_131 h (hs.1 _ _ _ (by show _ ∧ _; exact ⟨by first | assumption | rfl | omega, by first | assumption | rfl | omega⟩)) dX3_comesBefore_26 ?_
    refine ca_iconst h dX3_comesBefore_29 ik_1 ?_
    refine ca_icmp_ne (tgt := 37) h dX3_comesBefore_30 (by decide) (fun c_30 => ?_) (fun c_30 => ?_)
    ·
      refine ca_iconst h dX3_comesBefore_37 ik_0 ?_
      refine ca_ireturn h hR rfl dX3_comesBefore_38 ?_
      exact ⟨by congr 2; unfold k_cb bI; (repeat' split) <;> simp_all [-Int32.not_lt], rfl, rfl⟩
    ·
      refine ca_iconst h dX3_comesBefore_33 ik_1 ?_
      refine ca_goto (tgt := 38) h dX3_comesBefore_34 (by decide) ?_
      refine ca_ireturn h hR rfl dX3_comesBefore_38 ?_
      exact ⟨by congr 2; unfold k_cb bI; (repeat' split) <;> simp_all [-Int32.not_lt], rfl, rfl⟩
set_option maxHeartbeats 100000 in
theorem c_X3_requestsBefore {l : Launch} {E : ch_E} {S : ch_S} {μ : ch_M} {k j : Nat} (hs : ch_Std E S) (hk : k < 15) (hm : k_mc (μ k) ≤ 12) (hj : j < 12) : ch_C E l yX3_requestsBefore cX3_requestsBefore 5 (some FieldType.int) 3 0 0 S μ [.ref (S.1 k 0 0), .int (nI j)] (ch_F (some (.int (k_rb (μ k) j))) S (μ)) := by
  refine ch_enter rfl rfl ?_
  intro X hl0 h hG hR hnm
  have h : ch_H X E RX3 cX3_requestsBefore 5 := h
  show ch_W X E 5 S μ 0 0 0 [(0, .ref (S.1 k 0 0)), (1, .int (nI j))] []
  refine ca_aload_nr h dX3_requestsBefore_0 rfl ?_
  refine ca_iload_n h dX3_requestsBefore_1 rfl ?_
  refine ca_vr h hG ml_X3_106 (c_X3_mobileJ hs hk (by omega)) (ci := 3) rfl rfl rfl (hs.1 _ _ _ (by show _ ∧ _; exact ⟨by first | assumption | rfl | omega, by first | assumption | rfl | omega⟩)) rfl rfl rfl rfl ⟨Nat.le_refl _, Nat.le_refl _⟩ rfl dX3_requestsBefore_2 ?_
  refine gi_X3_144 h (hs.1 _ _ _ (by show _ ∧ _; exact ⟨by first | assumption | rfl | omega, by first | assumption | rfl | omega⟩)) dX3_requestsBefore_5 ?_
  refine ca_istore_n h dX3_requestsBefore_8 rfl ?_
  refine ca_iconst h dX3_requestsBefore_9 ik_0 ?_
  refine ca_istore_n h dX3_requestsBefore_10 rfl ?_
  refine ca_iconst h dX3_requestsBefore_11 ik_0 ?_
  refine ca_istore h dX3_requestsBefore_12 rfl ?_
  have loop_14 : ∀ (jj n : Nat), n + jj = k_mc (μ k) → ∀ (x3 : Int32) (e3 : x3 = kf (fun i r => if (μ k) 3 i 8 = (μ k) 3 j 8 ∧ k_cb (μ k) i j = true then r + 1 else r) n 0) (x4 : Int32) (e4 : x4 = nI n), ch_W X E 5 S μ 0 0 14 [(0, .ref (S.1 k 0 0)), (1, .int (nI j)), (2, .int (μ k 3 j 8)), (3, .int x3), (4, .int x4)] [] := by
    intro jj
    induction jj with
    | zero =>
      intro n hn x3 e3 x4 e4
      have hn : n = k_mc (μ k) := by omega
      subst e3 e4
      refine ca_iload h dX3_requestsBefore_14 rfl ?_
      refine ca_aload_nr h dX3_requestsBefore_16 rfl ?_
      refine gi_X3_76 h (hs.1 _ _ _ (by show _ ∧ _; exact ⟨by first | assumption | rfl | omega, by first | assumption | rfl | omega⟩)) dX3_requestsBefore_17 ?_
      refine ca_icmp_ge (tgt := 55) h dX3_requestsBefore_20 (by decide) (fun c_20 => ?_) (fun c_20 => ?_)
      ·
        refine ca_iload_n h dX3_requestsBefore_55 rfl ?_
        refine ca_ireturn h hR rfl dX3_requestsBefore_56 ?_
        exact ⟨by rw [hn]; rfl, rfl, rfl⟩
      · exact absurd c_20 (lt_no rfl hn)
    | succ jj ih_14 =>
      intro n hn x3 e3 x4 e4
      have hn1 : n < k_mc (μ k) := by omega
      subst e3 e4
      refine ca_iload h dX3_requestsBefore_14 rfl ?_
      refine ca_aload_nr h dX3_requestsBefore_16 rfl ?_
      refine gi_X3_76 h (hs.1 _ _ _ (by show _ ∧ _; exact ⟨by first | assumption | rfl | omega, by first | assumption | rfl | omega⟩)) dX3_requestsBefore_17 ?_
      refine ca_icmp_ge (tgt := 55) h dX3_requestsBefore_20 (by decide) (fun c_20 => ?_) (fun c_20 => ?_)
      · exact absurd (lt_yes rfl hn1) c_20
      ·
        refine ca_aload_nr h dX3_requestsBefore_23 rfl ?_
        refine ca_iload h dX3_requestsBefore_24 rfl ?_
        refine ca_vr h hG ml_X3_106 (c_X3_mobileJ hs hk (by omega)) (ci := 3) rfl rfl rfl (hs.1 _ _ _ (by show _ ∧ _; exact ⟨by first | assumption | rfl | omega, by first | assumption | rfl | omega⟩)) rfl rfl rfl rfl ⟨Nat.le_refl _, Nat.le_refl _⟩ rfl dX3_requestsBefore_26 ?_
        refine gi_X3_144 h (hs.1 _ _ _ (by show _ ∧ _; exact ⟨by first | assumption | rfl | omega, by first | assumption | rfl | omega⟩)) dX3_requestsBefore_29 ?_
        refine ca_iload_n h dX3_requestsBefore_32 rfl ?_
        refine ca_icmp_ne (tgt := 49) h dX3_requestsBefore_33 (by decide) (fun c_33 => ?_) (fun c_33 => ?_)
        ·
          refine ca_iinc h dX3_requestsBefore_49 rfl ik_1 rfl ?_
          refine ca_goto (tgt := 14) h dX3_requestsBefore_52 (by decide) ?_
          refine ca_pick [1, 2, 3, 4, 0] rfl ?_
          exact ih_14 (n + 1) (by omega) _ (by simp [kf, bI_0, c_20, c_33] <;> simp_all [bI_0]) _ (nI_1 n)
        ·
          refine ca_aload_nr h dX3_requestsBefore_36 rfl ?_
          refine ca_iload h dX3_requestsBefore_37 rfl ?_
          refine ca_iload_n h dX3_requestsBefore_39 rfl ?_
          refine ca_vi h hG ml_X3_156 (c_X3_comesBefore hs hk (by omega) (by omega)) (ci := 3) rfl rfl rfl (hs.1 _ _ _ (by show _ ∧ _; exact ⟨by first | assumption | rfl | omega, by first | assumption | rfl | omega⟩)) rfl rfl rfl rfl ⟨Nat.le_refl _, Nat.le_refl _⟩ rfl dX3_requestsBefore_40 ?_
          refine ca_if_eq (tgt := 49) h dX3_requestsBefore_43 (by decide) (fun c_43 => ?_) (fun c_43 => ?_)
          ·
            refine ca_iinc h dX3_requestsBefore_49 rfl ik_1 rfl ?_
            refine ca_goto (tgt := 14) h dX3_requestsBefore_52 (by decide) ?_
            refine ca_pick [1, 2, 3, 4, 0] rfl ?_
            exact ih_14 (n + 1) (by omega) _ (by simp [kf, bI_0, c_20, c_33, c_43] <;> simp_all [bI_0]) _ (nI_1 n)
          ·
            refine ca_iinc h dX3_requestsBefore_46 rfl ik_1 rfl ?_
            refine ca_iinc h dX3_requestsBefore_49 rfl ik_1 rfl ?_
            refine ca_goto (tgt := 14) h dX3_requestsBefore_52 (by decide) ?_
            refine ca_pick [2, 3, 4, 1, 0] rfl ?_
            exact ih_14 (n + 1) (by omega) _ (by simp [kf, bI_0, c_20, c_33, c_43] <;> simp_all [bI_0]) _ (nI_1 n)
  refine ca_pick [3, 4, 2, 1, 0] rfl ?_
  exact loop_14 _ 0 (Nat.zero_add _) _ rfl _ rfl
set_option maxHeartbeats 100000 in
theorem c_X3_queuedMobile {l : Launch} {E : ch_E} {S : ch_S} {μ : ch_M} {k : Nat} (hs : ch_Std E S) (hk : k < 15) (hm : k_mc (μ k) ≤ 12) {c x : Int32} : ch_C E l yX3_queuedMobile cX3_queuedMobile 4 (some FieldType.int) 4 0 0 S μ [.ref (S.1 k 0 0), .int c, .int x] (ch_F (some (.int (k_qm (μ k) c x))) S (μ)) := by
  refine ch_enter rfl rfl ?_
  intro X hl0 h hG hR hnm
  have h : ch_H X E RX3 cX3_queuedMobile 4 := h
  show ch_W X E 4 S μ 0 0 0 [(0, .ref (S.1 k 0 0)), (1, .int c), (2, .int x)] []
  refine ca_iconst h dX3_queuedMobile_0 ik_0 ?_
  refine ca_istore_n h dX3_queuedMobile_1 rfl ?_
  have loop_2 : ∀ (jj n : Nat), n + jj = k_mc (μ k) → ∀ (x3 : Int32) (e3 : x3 = nI n) (hx : k_qm (μ k) c x = kq (fun i => decide ((μ k) 3 i 8 = c ∧ k_rb (μ k) i = x)) (k_mc (μ k)) jj), ch_W X E 4 S μ 0 0 2 [(0, .ref (S.1 k 0 0)), (1, .int c), (2, .int x), (3, .int x3)] [] := by
    intro jj
    induction jj with
    | zero =>
      intro n hn x3 e3 hx
      have hn : n = k_mc (μ k) := by omega
      subst e3
      refine ca_iload_n h dX3_queuedMobile_2 rfl ?_
      refine ca_aload_nr h dX3_queuedMobile_3 rfl ?_
      refine gi_X3_76 h (hs.1 _ _ _ (by show _ ∧ _; exact ⟨by first | assumption | rfl | omega, by first | assumption | rfl | omega⟩)) dX3_queuedMobile_4 ?_
      refine ca_icmp_ge (tgt := 39) h dX3_queuedMobile_7 (by decide) (fun c_7 => ?_) (fun c_7 => ?_)
      ·
        refine ca_iconst h dX3_queuedMobile_39 ik_m1 ?_
        refine ca_ireturn h hR rfl dX3_queuedMobile_40 ?_
        exact ⟨by rw [hx]; rfl, rfl, rfl⟩
      · exact absurd c_7 (lt_no rfl hn)
    | succ jj ih_2 =>
      intro n hn x3 e3 hx
      have hn1 : n < k_mc (μ k) := by omega
      subst e3
      refine ca_iload_n h dX3_queuedMobile_2 rfl ?_
      refine ca_aload_nr h dX3_queuedMobile_3 rfl ?_
      refine gi_X3_76 h (hs.1 _ _ _ (by show _ ∧ _; exact ⟨by first | assumption | rfl | omega, by first | assumption | rfl | omega⟩)) dX3_queuedMobile_4 ?_
      refine ca_icmp_ge (tgt := 39) h dX3_queuedMobile_7 (by decide) (fun c_7 => ?_) (fun c_7 => ?_)
      · exact absurd (lt_yes rfl hn1) c_7
      ·
        refine ca_aload_nr h dX3_queuedMobile_10 rfl ?_
        refine ca_iload_n h dX3_queuedMobile_11 rfl ?_
        refine ca_vr h hG ml_X3_106 (c_X3_mobileJ hs hk (by omega)) (ci := 3) rfl rfl rfl (hs.1 _ _ _ (by show _ ∧ _; exact ⟨by first | assumption | rfl | omega, by first | assumption | rfl | omega⟩)) rfl rfl rfl rfl ⟨Nat.le_refl _, Nat.le_refl _⟩ rfl dX3_queuedMobile_12 ?_
        refine gi_X3_144 h (hs.1 _ _ _ (by show _ ∧ _; exact ⟨by first | assumption | rfl | omega, by first | assumption | rfl | omega⟩)) dX3_queuedMobile_15 ?_
        refine ca_iload_n h dX3_queuedMobile_18 rfl ?_
        refine ca_icmp_ne (tgt := 33) h dX3_queuedMobile_19 (by decide) (fun c_19 => ?_) (fun c_19 => ?_)
        ·
          refine ca_iinc h dX3_queuedMobile_33 rfl ik_1 rfl ?_
          refine ca_goto (tgt := 2) h dX3_queuedMobile_36 (by decide) ?_
          refine ca_pick [1, 2, 3, 0] rfl ?_
          exact ih_2 (n + 1) (by omega) _ (nI_1 n) (by rw [hx, kq_no hn (by simp [c_7, c_19])])
        ·
          refine ca_aload_nr h dX3_queuedMobile_22 rfl ?_
          refine ca_iload_n h dX3_queuedMobile_23 rfl ?_
          refine ca_vi h hG ml_X3_153 (c_X3_requestsBefore hs hk (by assumption) (by omega)) (ci := 3) rfl rfl rfl (hs.1 _ _ _ (by show _ ∧ _; exact ⟨by first | assumption | rfl | omega, by first | assumption | rfl | omega⟩)) rfl rfl rfl rfl ⟨Nat.le_refl _, Nat.le_refl _⟩ rfl dX3_queuedMobile_24 ?_
          refine ca_iload_n h dX3_queuedMobile_27 rfl ?_
          refine ca_icmp_ne (tgt := 33) h dX3_queuedMobile_28 (by decide) (fun c_28 => ?_) (fun c_28 => ?_)
          ·
            refine ca_iinc h dX3_queuedMobile_33 rfl ik_1 rfl ?_
            refine ca_goto (tgt := 2) h dX3_queuedMobile_36 (by decide) ?_
            refine ca_pick [1, 2, 3, 0] rfl ?_
            exact ih_2 (n + 1) (by omega) _ (nI_1 n) (by rw [hx, kq_no hn (by simp [c_7, c_19, c_28])])
          ·
            refine ca_iload_n h dX3_queuedMobile_31 rfl ?_
            refine ca_ireturn h hR rfl dX3_queuedMobile_32 ?_
            exact ⟨by rw [hx, kq_yes hn (by simp [c_7, c_19, c_28])], rfl, rfl⟩
  refine ca_pick [1, 2, 3, 0] rfl ?_
  exact loop_2 _ 0 (Nat.zero_add _) _ rfl rfl
set_option maxHeartbeats 100000 in
theorem c_X3_loudestCell {l : Launch} {E : ch_E} {S : ch_S} {μ : ch_M} {k : Nat} (hs : ch_Std E S) (hk : k < 15) (hc : k_cc (μ k) ≤ 8) {x y : Int32} : ch_C E l yX3_loudestCell cX3_loudestCell 7 (some FieldType.int) 2 0 0 S μ [.ref (S.1 k 0 0), .int x, .int y] (ch_F (some (.int ((k_ld (μ k) x y (k_cc (μ k))).1))) S (μ)) := by
  refine ch_enter rfl rfl ?_
  intro X hl0 h hG hR hnm
  have h : ch_H X E RX3 cX3_loudestCell 7 := h
  show ch_W X E 7 S μ 0 0 0 [(0, .ref (S.1 k 0 0)), (1, .int x), (2, .int y)] []
  refine ca_iconst h dX3_loudestCell_0 ik_m1 ?_
  refine ca_istore_n h dX3_loudestCell_1 rfl ?_
  refine ca_iconst h dX3_loudestCell_2 ik_m1 ?_
  refine ca_istore h dX3_loudestCell_3 rfl ?_
  refine ca_iconst h dX3_loudestCell_5 ik_0 ?_
  refine ca_istore h dX3_loudestCell_6 rfl ?_
  have loop_8 : ∀ (jj n : Nat), n + jj = k_cc (μ k) → ∀ (x3 : Int32) (e3 : x3 = (k_ld (μ k) x y n).1) (x4 : Int32) (e4 : x4 = (k_ld (μ k) x y n).2) (x5 : Int32) (e5 : x5 = nI n), ch_W X E 7 S μ 0 0 8 [(0, .ref (S.1 k 0 0)), (1, .int x), (2, .int y), (3, .int x3), (4, .int x4), (5, .int x5)] [] := by
    intro jj
    induction jj with
    | zero =>
      intro n hn x3 e3 x4 e4 x5 e5
      have hn : n = k_cc (μ k) := by omega
      subst e3 e4 e5
      refine ca_iload h dX3_loudestCell_8 rfl ?_
      refine ca_aload_nr h dX3_loudestCell_10 rfl ?_
      refine gi_X3_70 h (hs.1 _ _ _ (by show _ ∧ _; exact ⟨by first | assumption | rfl | omega, by first | assumption | rfl | omega⟩)) dX3_loudestCell_11 ?_
      refine ca_icmp_ge (tgt := 50) h dX3_loudestCell_14 (by decide) (fun c_14 => ?_) (fun c_14 => ?_)
      ·
        refine ca_iload_n h dX3_loudestCell_50 rfl ?_
        refine ca_ireturn h hR rfl dX3_loudestCell_51 ?_
        exact ⟨by rw [hn], rfl, rfl⟩
      · exact absurd c_14 (lt_no rfl hn)
    | succ jj ih_8 =>
      intro n hn x3 e3 x4 e4 x5 e5
      have hn1 : n < k_cc (μ k) := by omega
      subst e3 e4 e5
      refine ca_iload h dX3_loudestCell_8 rfl ?_
      refine ca_aload_nr h dX3_loudestCell_10 rfl ?_
      refine gi_X3_70 h (hs.1 _ _ _ (by show _ ∧ _; exact ⟨by first | assumption | rfl | omega, by first | assumption | rfl | omega⟩)) dX3_loudestCell_11 ?_
      refine ca_icmp_ge (tgt := 50) h dX3_loudestCell_14 (by decide) (fun c_14 => ?_) (fun c_14 => ?_)
      · exact absurd (lt_yes rfl hn1) c_14
      ·
        refine ca_aload_nr h dX3_loudestCell_17 rfl ?_
        refine ca_iload h dX3_loudestCell_18 rfl ?_
        refine ca_vr h hG ml_X3_95 (c_X3_cellJ hs hk (by omega)) (ci := 3) rfl rfl rfl (hs.1 _ _ _ (by show _ ∧ _; exact ⟨by first | assumption | rfl | omega, by first | assumption | rfl | omega⟩)) rfl rfl rfl rfl ⟨Nat.le_refl _, Nat.le_refl _⟩ rfl dX3_loudestCell_20 ?_
        refine ca_iload_n h dX3_loudestCell_23 rfl ?_
        refine ca_iload_n h dX3_loudestCell_24 rfl ?_
        refine ca_vi h hG ml_X3_117 (c_X0_levelAt hs (by assumption) (by first | assumption | omega)) (ci := 0) rfl rfl rfl (hs.1 _ _ _ (by show _ ∧ _; exact ⟨by first | assumption | rfl | omega, by first | assumption | rfl | omega⟩)) rfl rfl rfl rfl ⟨Nat.le_refl _, Nat.le_refl _⟩ rfl dX3_loudestCell_25 ?_
        refine ca_istore h dX3_loudestCell_28 rfl ?_
        refine ca_iload h dX3_loudestCell_30 rfl ?_
        refine ca_iload h dX3_loudestCell_32 rfl ?_
        refine ca_icmp_le (tgt := 44) h dX3_loudestCell_34 (by decide) (fun c_34 => ?_) (fun c_34 => ?_)
        ·
          refine ca_iinc h dX3_loudestCell_44 rfl ik_1 rfl ?_
          refine ca_goto (tgt := 8) h dX3_loudestCell_47 (by decide) ?_
          refine ca_pick [2, 3, 4, 5, 6, 0] rfl ?_
          have e9 : k_ld (μ k) x y (n + 1) = (if (k_ld (μ k) x y n).2 < k_lv (μ k) n x y then (nI n, k_lv (μ k) n x y) else k_ld (μ k) x y n) := rfl
          rw [if_neg c_34] at e9
          exact ih_8 (n + 1) (by omega) _ (by rw [e9]) _ (by rw [e9]) _ (nI_1 n)
        ·
          refine ca_iload h dX3_loudestCell_37 rfl ?_
          refine ca_istore_n h dX3_loudestCell_39 rfl ?_
          refine ca_iload h dX3_loudestCell_40 rfl ?_
          refine ca_istore h dX3_loudestCell_42 rfl ?_
          refine ca_iinc h dX3_loudestCell_44 rfl ik_1 rfl ?_
          refine ca_goto (tgt := 8) h dX3_loudestCell_47 (by decide) ?_
          refine ca_pick [4, 5, 6, 2, 1, 0] rfl ?_
          have e9 : k_ld (μ k) x y (n + 1) = (if (k_ld (μ k) x y n).2 < k_lv (μ k) n x y then (nI n, k_lv (μ k) n x y) else k_ld (μ k) x y n) := rfl
          rw [if_pos c_34] at e9
          exact ih_8 (n + 1) (by omega) _ (by rw [e9]) _ (by rw [e9]) _ (nI_1 n)
  refine ca_pick [3, 4, 5, 2, 1, 0] rfl ?_
  exact loop_8 _ 0 (Nat.zero_add _) _ rfl _ rfl _ rfl
set_option maxHeartbeats 100000 in
theorem c_X3_canBeUsed {l : Launch} {E : ch_E} {S : ch_S} {μ : ch_M} {k : Nat} (hs : ch_Std E S) (hk : k < 15) {c x y : Int32} : ch_C E l yX3_canBeUsed cX3_canBeUsed 5 (some FieldType.boolean) 2 0 0 S μ [.ref (S.1 k 0 0), .int c, .int x, .int y] (ch_F (some (.int (bI (k_use (μ k) c x y)))) S (μ)) := by
  refine ch_enter rfl rfl ?_
  intro X hl0 h hG hR hnm
  have h : ch_H X E RX3 cX3_canBeUsed 5 := h
  show ch_W X E 5 S μ 0 0 0 [(0, .ref (S.1 k 0 0)), (1, .int c), (2, .int x), (3, .int y)] []
  refine ca_aload_nr h dX3_canBeUsed_0 rfl ?_
  refine ca_iload_n h dX3_canBeUsed_1 rfl ?_
  refine ca_vr h hG ml_X3_95 (c_X3_cellAt hs (by assumption)) (ci := 3) rfl rfl rfl (hs.1 _ _ _ (by show _ ∧ _; exact ⟨by first | assumption | rfl | omega, by first | assumption | rfl | omega⟩)) rfl rfl rfl rfl ⟨Nat.le_refl _, Nat.le_refl _⟩ rfl dX3_canBeUsed_2 ?_
  refine ca_astore h dX3_canBeUsed_5 rfl ?_
  refine ca_aload h dX3_canBeUsed_7 rfl ?_
  refine ca_iload_n h dX3_canBeUsed_9 rfl ?_
  refine ca_iload_n h dX3_canBeUsed_10 rfl ?_
  refine ca_vi h hG ml_X3_117 (c_X0_levelAt hs hk (k_ixc _)) (ci := 0) rfl rfl rfl (hs.1 _ _ _ (vC hk (k_ixc _))) rfl rfl rfl rfl ⟨Nat.le_refl _, Nat.le_refl _⟩ rfl dX3_canBeUsed_11 ?_
  refine ca_aload h dX3_canBeUsed_14 rfl ?_
  refine gi_X3_128 h (hs.1 _ _ _ (vC hk (k_ixc _))) dX3_canBeUsed_16 ?_
  refine ca_icmp_lt (tgt := 26) h dX3_canBeUsed_19 (by decide) (fun c_19 => ?_) (fun c_19 => ?_)
  ·
    refine ca_iconst h dX3_canBeUsed_26 ik_0 ?_
    refine ca_ireturn h hR rfl dX3_canBeUsed_27 ?_
    exact ⟨by simp [k_use, bI, c_19], rfl, rfl⟩
  ·
    refine ca_iconst h dX3_canBeUsed_22 ik_1 ?_
    refine ca_goto (tgt := 27) h dX3_canBeUsed_23 (by decide) ?_
    refine ca_ireturn h hR rfl dX3_canBeUsed_27 ?_
    exact ⟨by simp [k_use, bI, c_19], rfl, rfl⟩
set_option maxHeartbeats 100000 in
theorem c_X3_coveringCell {l : Launch} {E : ch_E} {S : ch_S} {μ : ch_M} {k : Nat} (hs : ch_Std E S) (hk : k < 15) (hc : k_cc (μ k) ≤ 8) {x y : Int32} : ch_C E l yX3_coveringCell cX3_coveringCell 4 (some FieldType.int) 3 0 0 S μ [.ref (S.1 k 0 0), .int x, .int y] (ch_F (some (.int (k_cov (μ k) x y))) S (μ)) := by
  refine ch_enter rfl rfl ?_
  intro X hl0 h hG hR hnm
  have h : ch_H X E RX3 cX3_coveringCell 4 := h
  show ch_W X E 4 S μ 0 0 0 [(0, .ref (S.1 k 0 0)), (1, .int x), (2, .int y)] []
  refine ca_aload_nr h dX3_coveringCell_0 rfl ?_
  refine ca_iload_n h dX3_coveringCell_1 rfl ?_
  refine ca_iload_n h dX3_coveringCell_2 rfl ?_
  refine ca_vi h hG ml_X3_121 (c_X3_loudestCell hs hk (by assumption)) (ci := 3) rfl rfl rfl (hs.1 _ _ _ (by show _ ∧ _; exact ⟨by first | assumption | rfl | omega, by first | assumption | rfl | omega⟩)) rfl rfl rfl rfl ⟨Nat.le_refl _, Nat.le_refl _⟩ rfl dX3_coveringCell_3 ?_
  refine ca_istore_n h dX3_coveringCell_6 rfl ?_
  refine ca_iload_n h dX3_coveringCell_7 rfl ?_
  refine ca_iconst h dX3_coveringCell_8 ik_m1 ?_
  refine ca_icmp_eq (tgt := 26) h dX3_coveringCell_9 (by decide) (fun c_9 => ?_) (fun c_9 => ?_)
  ·
    refine ca_iconst h dX3_coveringCell_26 ik_m1 ?_
    refine ca_ireturn h hR rfl dX3_coveringCell_27 ?_
    exact ⟨by unfold k_cov; simp_all [-Int32.not_lt, bI_0], rfl, rfl⟩
  ·
    refine ca_aload_nr h dX3_coveringCell_12 rfl ?_
    refine ca_iload_n h dX3_coveringCell_13 rfl ?_
    refine ca_iload_n h dX3_coveringCell_14 rfl ?_
    refine ca_iload_n h dX3_coveringCell_15 rfl ?_
    refine ca_vi h hG ml_X3_124 (c_X3_canBeUsed hs hk) (ci := 3) rfl rfl rfl (hs.1 _ _ _ (by show _ ∧ _; exact ⟨by first | assumption | rfl | omega, by first | assumption | rfl | omega⟩)) rfl rfl rfl rfl ⟨Nat.le_refl _, Nat.le_refl _⟩ rfl dX3_coveringCell_16 ?_
    refine ca_if_eq (tgt := 26) h dX3_coveringCell_19 (by decide) (fun c_19 => ?_) (fun c_19 => ?_)
    ·
      refine ca_iconst h dX3_coveringCell_26 ik_m1 ?_
      refine ca_ireturn h hR rfl dX3_coveringCell_27 ?_
      exact ⟨by unfold k_cov; simp_all [-Int32.not_lt, bI_0], rfl, rfl⟩
    ·
      refine ca_iload_n h dX3_coveringCell_22 rfl ?_
      refine ca_goto (tgt := 27) h dX3_coveringCell_23 (by decide) ?_
      refine ca_ireturn h hR rfl dX3_coveringCell_27 ?_
      exact ⟨by unfold k_cov; simp_all [-Int32.not_lt, bI_0], rfl, rfl⟩
set_option maxHeartbeats 100000 in
theorem c_X3_retryCell {l : Launch} {E : ch_E} {S : ch_S} {μ : ch_M} {k : Nat} (hs : ch_Std E S) (hk : k < 15) (hm : k_mc (μ k) ≤ 12) (hc : k_cc (μ k) ≤ 8) {s x y : Int32} : ch_C E l yX3_retryCell cX3_retryCell 8 (some FieldType.int) 4 0 0 S μ [.ref (S.1 k 0 0), .int s, .int x, .int y] (ch_F (some (.int ((k_rc (μ k) s x y (k_cc (μ k))).1))) S (μ)) := by
  refine ch_enter rfl rfl ?_
  intro X hl0 h hG hR hnm
  have h : ch_H X E RX3 cX3_retryCell 8 := h
  show ch_W X E 8 S μ 0 0 0 [(0, .ref (S.1 k 0 0)), (1, .int s), (2, .int x), (3, .int y)] []
  refine ca_iconst h dX3_retryCell_0 ik_m1 ?_
  refine ca_istore h dX3_retryCell_1 rfl ?_
  refine ca_iconst h dX3_retryCell_3 ik_m1 ?_
  refine ca_istore h dX3_retryCell_4 rfl ?_
  refine ca_iconst h dX3_retryCell_6 ik_0 ?_
  refine ca_istore h dX3_retryCell_7 rfl ?_
  have loop_9 : ∀ (jj n : Nat), n + jj = k_cc (μ k) → ∀ (x4 : Int32) (e4 : x4 = (k_rc (μ k) s x y n).1) (x5 : Int32) (e5 : x5 = (k_rc (μ k) s x y n).2) (x6 : Int32) (e6 : x6 = nI n), ch_W X E 8 S μ 0 0 9 [(0, .ref (S.1 k 0 0)), (1, .int s), (2, .int x), (3, .int y), (4, .int x4), (5, .int x5), (6, .int x6)] [] := by
    intro jj
    induction jj with
    | zero =>
      intro n hn x4 e4 x5 e5 x6 e6
      have hn : n = k_cc (μ k) := by omega
      subst e4 e5 e6
      refine ca_iload h dX3_retryCell_9 rfl ?_
      refine ca_aload_nr h dX3_retryCell_11 rfl ?_
      refine gi_X3_70 h (hs.1 _ _ _ (by show _ ∧ _; exact ⟨by first | assumption | rfl | omega, by first | assumption | rfl | omega⟩)) dX3_retryCell_12 ?_
      refine ca_icmp_ge (tgt := 85) h dX3_retryCell_15 (by decide) (fun c_15 => ?_) (fun c_15 => ?_)
      ·
        refine ca_iload h dX3_retryCell_85 rfl ?_
        refine ca_ireturn h hR rfl dX3_retryCell_87 ?_
        exact ⟨by rw [hn], rfl, rfl⟩
      · exact absurd c_15 (lt_no rfl hn)
    | succ jj ih_9 =>
      intro n hn x4 e4 x5 e5 x6 e6
      have hn1 : n < k_cc (μ k) := by omega
      subst e4 e5 e6
      refine ca_iload h dX3_retryCell_9 rfl ?_
      refine ca_aload_nr h dX3_retryCell_11 rfl ?_
      refine gi_X3_70 h (hs.1 _ _ _ (by show _ ∧ _; exact ⟨by first | assumption | rfl | omega, by first | assumption | rfl | omega⟩)) dX3_retryCell_12 ?_
      refine ca_icmp_ge (tgt := 85) h dX3_retryCell_15 (by decide) (fun c_15 => ?_) (fun c_15 => ?_)
      · exact absurd (lt_yes rfl hn1) c_15
      ·
        refine ca_aload_nr h dX3_retryCell_18 rfl ?_
        refine ca_iload h dX3_retryCell_19 rfl ?_
        refine ca_vr h hG ml_X3_95 (c_X3_cellJ hs hk (by omega)) (ci := 3) rfl rfl rfl (hs.1 _ _ _ (by show _ ∧ _; exact ⟨by first | assumption | rfl | omega, by first | assumption | rfl | omega⟩)) rfl rfl rfl rfl ⟨Nat.le_refl _, Nat.le_refl _⟩ rfl dX3_retryCell_21 ?_
        refine ca_iload_n h dX3_retryCell_24 rfl ?_
        refine ca_iload_n h dX3_retryCell_25 rfl ?_
        refine ca_vi h hG ml_X3_117 (c_X0_levelAt hs hk (by omega)) (ci := 0) rfl rfl rfl (hs.1 _ _ _ (by show _ ∧ _; exact ⟨by first | assumption | rfl | omega, by first | assumption | rfl | omega⟩)) rfl rfl rfl rfl ⟨Nat.le_refl _, Nat.le_refl _⟩ rfl dX3_retryCell_26 ?_
        refine ca_istore h dX3_retryCell_29 rfl ?_
        refine ca_aload_nr h dX3_retryCell_31 rfl ?_
        refine ca_iload_n h dX3_retryCell_32 rfl ?_
        refine ca_iload h dX3_retryCell_33 rfl ?_
        refine ca_vr h hG ml_X3_82 (c_X3_relationAt hs (by assumption)) (ci := 3) rfl rfl rfl (hs.1 _ _ _ (by show _ ∧ _; exact ⟨by first | assumption | rfl | omega, by first | assumption | rfl | omega⟩)) rfl rfl rfl rfl ⟨Nat.le_refl _, Nat.le_refl _⟩ rfl dX3_retryCell_35 ?_
        refine gi_X3_194 h (hs.1 _ _ _ (vR hk (k_rx_le _ _))) dX3_retryCell_38 ?_
        refine ca_if_eq (tgt := 79) h dX3_retryCell_41 (by decide) (fun c_41 => ?_) (fun c_41 => ?_)
        ·
          refine ca_iinc h dX3_retryCell_79 rfl ik_1 rfl ?_
          refine ca_goto (tgt := 9) h dX3_retryCell_82 (by decide) ?_
          refine ca_pick [2, 3, 4, 5, 6, 7, 0] rfl ?_
          have e9 : k_rc (μ k) s x y (n + 1) = (if ¬ (μ k) 2 (k_rx s (nI n)) 0 = 0 ∧ (k_rc (μ k) s x y n).2 < k_lv (μ k) n x y ∧ k_use (μ k) (nI n) x y = true ∧ k_free (μ k) (nI n) = true then (nI n, k_lv (μ k) n x y) else k_rc (μ k) s x y n) := rfl
          rw [if_neg (fun q => q.1 c_41)] at e9
          exact ih_9 (n + 1) (by omega) _ (by show _ = (k_rc (μ k) s x y (n + 1)).1; rw [e9]) _ (by show _ = (k_rc (μ k) s x y (n + 1)).2; rw [e9]) _ (nI_1 n)
        ·
          refine ca_iload h dX3_retryCell_44 rfl ?_
          refine ca_iload h dX3_retryCell_46 rfl ?_
          refine ca_icmp_le (tgt := 79) h dX3_retryCell_48 (by decide) (fun c_48 => ?_) (fun c_48 => ?_)
          ·
            refine ca_iinc h dX3_retryCell_79 rfl ik_1 rfl ?_
            refine ca_goto (tgt := 9) h dX3_retryCell_82 (by decide) ?_
            refine ca_pick [2, 3, 4, 5, 6, 7, 0] rfl ?_
            have e9 : k_rc (μ k) s x y (n + 1) = (if ¬ (μ k) 2 (k_rx s (nI n)) 0 = 0 ∧ (k_rc (μ k) s x y n).2 < k_lv (μ k) n x y ∧ k_use (μ k) (nI n) x y = true ∧ k_free (μ k) (nI n) = true then (nI n, k_lv (μ k) n x y) else k_rc (μ k) s x y n) := rfl
            rw [if_neg (fun q => c_48 q.2.1)] at e9
            exact ih_9 (n + 1) (by omega) _ (by show _ = (k_rc (μ k) s x y (n + 1)).1; rw [e9]) _ (by show _ = (k_rc (μ k) s x y (n + 1)).2; rw [e9]) _ (nI_1 n)
          ·
            refine ca_aload_nr h dX3_retryCell_51 rfl ?_
            refine ca_iload h dX3_retryCell_52 rfl ?_
            refine ca_iload_n h dX3_retryCell_54 rfl ?_
            refine ca_iload_n h dX3_retryCell_55 rfl ?_
            refine ca_vi h hG ml_X3_124 (c_X3_canBeUsed hs hk) (ci := 3) rfl rfl rfl (hs.1 _ _ _ (by show _ ∧ _; exact ⟨by first | assumption | rfl | omega, by first | assumption | rfl | omega⟩)) rfl rfl rfl rfl ⟨Nat.le_refl _, Nat.le_refl _⟩ rfl dX3_retryCell_56 ?_
            refine ca_if_eq (tgt := 79) h dX3_retryCell_59 (by decide) (fun c_59 => ?_) (fun c_59 => ?_)
            ·
              refine ca_iinc h dX3_retryCell_79 rfl ik_1 rfl ?_
              refine ca_goto (tgt := 9) h dX3_retryCell_82 (by decide) ?_
              refine ca_pick [2, 3, 4, 5, 6, 7, 0] rfl ?_
              have e9 : k_rc (μ k) s x y (n + 1) = (if ¬ (μ k) 2 (k_rx s (nI n)) 0 = 0 ∧ (k_rc (μ k) s x y n).2 < k_lv (μ k) n x y ∧ k_use (μ k) (nI n) x y = true ∧ k_free (μ k) (nI n) = true then (nI n, k_lv (μ k) n x y) else k_rc (μ k) s x y n) := rfl
              rw [if_neg (fun q => bI_n0.mpr q.2.2.1 c_59)] at e9
              exact ih_9 (n + 1) (by omega) _ (by show _ = (k_rc (μ k) s x y (n + 1)).1; rw [e9]) _ (by show _ = (k_rc (μ k) s x y (n + 1)).2; rw [e9]) _ (nI_1 n)
            ·
              refine ca_aload_nr h dX3_retryCell_62 rfl ?_
              refine ca_iload h dX3_retryCell_63 rfl ?_
              refine ca_vi h hG ml_X3_163 (c_X3_hasFreeChannel hs hk (by assumption)) (ci := 3) rfl rfl rfl (hs.1 _ _ _ (by show _ ∧ _; exact ⟨by first | assumption | rfl | omega, by first | assumption | rfl | omega⟩)) rfl rfl rfl rfl ⟨Nat.le_refl _, Nat.le_refl _⟩ rfl dX3_retryCell_65 ?_
              refine ca_if_eq (tgt := 79) h dX3_retryCell_68 (by decide) (fun c_68 => ?_) (fun c_68 => ?_)
              ·
                refine ca_iinc h dX3_retryCell_79 rfl ik_1 rfl ?_
                refine ca_goto (tgt := 9) h dX3_retryCell_82 (by decide) ?_
                refine ca_pick [2, 3, 4, 5, 6, 7, 0] rfl ?_
                have e9 : k_rc (μ k) s x y (n + 1) = (if ¬ (μ k) 2 (k_rx s (nI n)) 0 = 0 ∧ (k_rc (μ k) s x y n).2 < k_lv (μ k) n x y ∧ k_use (μ k) (nI n) x y = true ∧ k_free (μ k) (nI n) = true then (nI n, k_lv (μ k) n x y) else k_rc (μ k) s x y n) := rfl
                rw [if_neg (fun q => bI_n0.mpr q.2.2.2 c_68)] at e9
                exact ih_9 (n + 1) (by omega) _ (by show _ = (k_rc (μ k) s x y (n + 1)).1; rw [e9]) _ (by show _ = (k_rc (μ k) s x y (n + 1)).2; rw [e9]) _ (nI_1 n)
              ·
                refine ca_iload h dX3_retryCell_71 rfl ?_
                refine ca_istore h dX3_retryCell_73 rfl ?_
                refine ca_iload h dX3_retryCell_75 rfl ?_
                refine ca_istore h dX3_retryCell_77 rfl ?_
                refine ca_iinc h dX3_retryCell_79 rfl ik_1 rfl ?_
                refine ca_goto (tgt := 9) h dX3_retryCell_82 (by decide) ?_
                refine ca_pick [4, 5, 6, 7, 2, 1, 0] rfl ?_
                have e9 : k_rc (μ k) s x y (n + 1) = (if ¬ (μ k) 2 (k_rx s (nI n)) 0 = 0 ∧ (k_rc (μ k) s x y n).2 < k_lv (μ k) n x y ∧ k_use (μ k) (nI n) x y = true ∧ k_free (μ k) (nI n) = true then (nI n, k_lv (μ k) n x y) else k_rc (μ k) s x y n) := rfl
                rw [if_pos ⟨c_41, c_48, bI_n0.mp c_59, bI_n0.mp c_68⟩] at e9
                exact ih_9 (n + 1) (by omega) _ (by show _ = (k_rc (μ k) s x y (n + 1)).1; rw [e9]) _ (by show _ = (k_rc (μ k) s x y (n + 1)).2; rw [e9]) _ (nI_1 n)
  refine ca_pick [3, 4, 5, 6, 2, 1, 0] rfl ?_
  exact loop_9 _ 0 (Nat.zero_add _) _ rfl _ rfl _ rfl
set_option maxHeartbeats 100000 in
theorem c_X3_totalOf {l : Launch} {E : ch_E} {S : ch_S} {μ : ch_M} {k : Nat} (hs : ch_Std E S) (hk : k < 15) {x : Int32} : ch_C E l yX3_totalOf cX3_totalOf 2 (some FieldType.int) 1 0 0 S μ [.ref (S.1 k 0 0), .int x] (ch_F (some (.int (k_tot (μ k) x))) S (μ)) := by
  refine ch_enter rfl rfl ?_
  intro X hl0 h hG hR hnm
  have h : ch_H X E RX3 cX3_totalOf 2 := h
  show ch_W X E 2 S μ 0 0 0 [(0, .ref (S.1 k 0 0)), (1, .int x)] []
  refine ca_iload_n h dX3_totalOf_0 rfl ?_
  refine ca_if_lt (tgt := 22) h dX3_totalOf_1 (by decide) (fun c_1 => ?_) (fun c_1 => ?_)
  ·
    refine ca_iconst h dX3_totalOf_22 ik_m1 ?_
    refine ca_ireturn h hR rfl dX3_totalOf_23 ?_
    exact ⟨by simp [k_tot, c_1], rfl, rfl⟩
  ·
    refine ca_iload_n h dX3_totalOf_4 rfl ?_
    refine ca_aload_nr h dX3_totalOf_5 rfl ?_
    refine gs_X3_29 h hs (by show _ ∧ _; exact ⟨by first | assumption | rfl | omega, by first | assumption | rfl | omega⟩) dX3_totalOf_6 ?_
    refine ca_alen h rfl (by decide) (hs.1 _ _ _ ⟨hk, rfl⟩) al_8 dX3_totalOf_9 ?_
    refine ca_icmp_ge (tgt := 22) h dX3_totalOf_10 (by decide) (fun c_10 => ?_) (fun c_10 => ?_)
    ·
      refine ca_iconst h dX3_totalOf_22 ik_m1 ?_
      refine ca_ireturn h hR rfl dX3_totalOf_23 ?_
      exact ⟨by simp [k_tot, c_1, c_10], rfl, rfl⟩
    ·
      refine ca_aload_nr h dX3_totalOf_13 rfl ?_
      refine gs_X3_29 h hs (by show _ ∧ _; exact ⟨by first | assumption | rfl | omega, by first | assumption | rfl | omega⟩) dX3_totalOf_14 ?_
      refine ca_iload_n h dX3_totalOf_17 rfl ?_
      refine ca_iald h rfl (hs.1 _ _ _ ⟨hk, rfl⟩) (vp_lt c_1 c_10 rfl (by decide)) dX3_totalOf_18 ?_
      refine ca_goto (tgt := 23) h dX3_totalOf_19 (by decide) ?_
      refine ca_ireturn h hR rfl dX3_totalOf_23 ?_
      exact ⟨by simp [k_tot, c_1, c_10], rfl, rfl⟩
set_option maxHeartbeats 100000 in
theorem c_X3_count {l : Launch} {E : ch_E} {S : ch_S} {μ : ch_M} {k j : Nat} (hs : ch_Std E S) (hk : k < 15) (hj : j < 8) : ch_C E l yX3_count cX3_count 2 none 1 0 0 S μ [.ref (S.1 k 0 0), .int (nI j)] (ch_F none S (up μ k (k_cnt (μ k) j))) := by
  refine ch_enter rfl rfl ?_
  intro X hl0 h hG hR hnm
  have h : ch_H X E RX3 cX3_count 2 := h
  show ch_W X E 2 S μ 0 0 0 [(0, .ref (S.1 k 0 0)), (1, .int (nI j))] []
  refine ca_iload_n h dX3_count_0 rfl ?_
  refine ca_if_lt (tgt := 23) h dX3_count_1 (by decide) (fun c_1 => ?_) (fun c_1 => ?_)
  · exact absurd c_1 (nI_pos (by omega))
  ·
    refine ca_iload_n h dX3_count_4 rfl ?_
    refine ca_aload_nr h dX3_count_5 rfl ?_
    refine gs_X3_29 h hs (by show _ ∧ _; exact ⟨by first | assumption | rfl | omega, by first | assumption | rfl | omega⟩) dX3_count_6 ?_
    refine ca_alen h rfl (by decide) (hs.1 _ _ _ ⟨hk, rfl⟩) al_8 dX3_count_9 ?_
    refine ca_icmp_ge (tgt := 23) h dX3_count_10 (by decide) (fun c_10 => ?_) (fun c_10 => ?_)
    · exact absurd (nI_lt (b := 8) hj (by decide)) c_10
    ·
      refine ca_aload_nr h dX3_count_13 rfl ?_
      refine gs_X3_29 h hs (by show _ ∧ _; exact ⟨by first | assumption | rfl | omega, by first | assumption | rfl | omega⟩) dX3_count_14 ?_
      refine ca_iload_n h dX3_count_17 rfl ?_
      refine ca_dup2 h dX3_count_18 rfl rfl ?_
      refine ca_iald h rfl (hs.1 _ _ _ ⟨hk, rfl⟩) (vp_lt c_1 c_10 rfl (by decide)) dX3_count_19 ?_
      refine ca_iconst h dX3_count_20 ik_1 ?_
      refine ca_iadd h dX3_count_21 ?_
      refine ca_iast h rfl (hs.1 _ _ _ ⟨hk, rfl⟩) (vp_lt c_1 c_10 rfl (by decide)) dX3_count_22 ?_
      refine ca_vreturn h hR dX3_count_23 ?_
      exact ⟨rfl, rfl, by simp [ch_st_nw, k_cnt, cn_nI (show j < 2 ^ 31 by omega)]⟩
