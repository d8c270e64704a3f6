/-! THE CLASS, its network: what its methods answer (n: one network's memory) -/
def bI (b : Bool) : Int32 := if b = true then 1 else 0
theorem bI_0 {b : Bool} : bI b = 0 ↔ b = false := by cases b <;> decide
theorem bI_1 {b : Bool} : bI b = 1 ↔ b = true := by cases b <;> decide
theorem bI_n0 {b : Bool} : ¬ bI b = 0 ↔ b = true := by cases b <;> decide
theorem bI_01 (b : Bool) : bI b = 0 ∨ bI b = 1 := by cases b <;> decide
theorem bI_z (b : Bool) : narrow .boolean (.int (bI b)) = .int (bI b) := by cases b <;> decide
def k_abs (x : Int32) : Int32 := if 0 ≤ x then x else 0 - x
def k_max (x y : Int32) : Int32 := if x < y then y else x
def k_min (x y : Int32) : Int32 := if y < x then y else x
/-- a place among m, else d -/
def k_ix (m : Int32) (d : Nat) (x : Int32) : Nat := if x < 0 then d else if x < m then cn x else d
def k_rx (a b : Int32) : Nat := if a < 0 then 64 else if a < 8 then (if b < 0 then 64 else if b < 8 then cn (a * 8 + b) else 64) else 64
def k_lv (n : ch_N) (c : Nat) (x y : Int32) : Int32 := k_max 0 (n 1 c 2 - n 1 c 3 * (k_abs (x - n 1 c 0) + k_abs (y - n 1 c 1)) / 100)
theorem k_ix_in {m : Int32} {d M j : Nat} (hm : m = nI M) (hM : M < 2 ^ 31) (hj : j < M) : k_ix m d (nI j) = j := by
  unfold k_ix
  rw [if_neg (nI_pos (by omega)), if_pos (by rw [hm]; exact nI_lt hj hM), cn_nI (by omega)]
theorem k_ix_le {m : Int32} {M : Nat} (hm : m = nI M) (hM : M < 2 ^ 31) (x : Int32) : k_ix m M x < M + 1 := by
  unfold k_ix
  split
  · omega
  · rename_i h0
    split
    · rename_i h1
      have := cn_in (vp_lt h0 h1 hm hM)
      omega
    · omega
theorem k_rx_in {a b : Nat} (ha : a < 8) (hb : b < 8) : k_rx (nI a) (nI b) = 8 * a + b := by
  unfold k_rx
  have e : nI a * 8 + nI b = nI (8 * a + b) := by
    rw [show (8 : Int32) = nI 8 from rfl, pk_mul, nI_add]
    congr 1
    omega
  rw [if_neg (nI_pos (by omega)), if_pos (show nI a < 8 from nI_lt (b := 8) ha (by decide)), if_neg (nI_pos (by omega)), if_pos (show nI b < 8 from nI_lt (b := 8) hb (by decide)), e, cn_nI (by omega)]
theorem k_rx_le (a b : Int32) : k_rx a b < 65 := by
  unfold k_rx
  split
  · omega
  · rename_i h0
    split
    · rename_i h1
      split
      · omega
      · rename_i h2
        split
        · rename_i h3
          have h4 := cn_in (vp_lt h0 h1 (n := 8) rfl (by decide))
          have h5 := cn_in (vp_lt h2 h3 (n := 8) rfl (by decide))
          have e : a * 8 + b = nI (cn a * 8 + cn b) := by
            rw [← nI_cn h0, ← nI_cn h2, show (8 : Int32) = nI 8 from rfl, pk_mul, nI_add, cn_nI (by omega), cn_nI (by omega)]
          rw [e, cn_nI (by omega)]
          omega
        · omega
    · omega
theorem al_8 : Int32.ofNat 8 = 8 := by decide
theorem al_12 : Int32.ofNat 12 = 12 := by decide
theorem al_64 : Int32.ofNat 64 = 64 := by decide
theorem al_700 : Int32.ofNat 700 = 700 := by decide
theorem vM {k i : Nat} (hk : k < 15) (hi : i < 13) : ch_V k 3 i := ⟨hk, hi⟩
theorem vC {k i : Nat} (hk : k < 15) (hi : i < 9) : ch_V k 1 i := ⟨hk, hi⟩
theorem vR {k i : Nat} (hk : k < 15) (hi : i < 65) : ch_V k 2 i := ⟨hk, hi⟩
theorem vN {k : Nat} (hk : k < 15) : ch_V k 0 0 := ⟨hk, rfl⟩
set_option maxHeartbeats 100000 in
theorem c_X0_levelAt {l : Launch} {E : ch_E} {S : ch_S} {μ : ch_M} {k i : Nat} (hs : ch_Std E S) (hk : k < 15) (hi : i < 9) {x y : Int32} : ch_C E l yX0_levelAt cX0_levelAt 4 (some FieldType.int) 1 0 0 S μ [.ref (S.1 k 1 i), .int x, .int y] (ch_F (some (.int (k_lv (μ k) i x y))) S (μ)) := by
  refine ch_enter rfl rfl ?_
  intro X hl0 h hG hR hnm
  have h : ch_H X E RX0 cX0_levelAt 4 := h
  show ch_W X E 4 S μ 0 0 0 [(0, .ref (S.1 k 1 i)), (1, .int x), (2, .int y)] []
  refine ca_iload_n h dX0_levelAt_0 rfl ?_
  refine ca_aload_nr h dX0_levelAt_1 rfl ?_
  refine gi_X0_7 h (hs.1 _ _ _ (by show _ ∧ _; exact ⟨by first | assumption | rfl | omega, by first | assumption | rfl | omega⟩)) dX0_levelAt_2 ?_
  refine ca_isub h dX0_levelAt_5 ?_
  refine ca_mabs h hG rfl rfl rfl kw_771 kw_772 kw_16 kw_773 (Nat.le_of_ble_eq_true rfl) dX0_levelAt_6 ?_
  refine ca_iload_n h dX0_levelAt_9 rfl ?_
  refine ca_aload_nr h dX0_levelAt_10 rfl ?_
  refine gi_X0_19 h (hs.1 _ _ _ (by show _ ∧ _; exact ⟨by first | assumption | rfl | omega, by first | assumption | rfl | omega⟩)) dX0_levelAt_11 ?_
  refine ca_isub h dX0_levelAt_14 ?_
  refine ca_mabs h hG rfl rfl rfl kw_771 kw_772 kw_16 kw_773 (Nat.le_of_ble_eq_true rfl) dX0_levelAt_15 ?_
  refine ca_iadd h dX0_levelAt_18 ?_
  refine ca_istore_n h dX0_levelAt_19 rfl ?_
  refine ca_iconst h dX0_levelAt_20 ik_0 ?_
  refine ca_aload_nr h dX0_levelAt_21 rfl ?_
  refine gi_X0_22 h (hs.1 _ _ _ (by show _ ∧ _; exact ⟨by first | assumption | rfl | omega, by first | assumption | rfl | omega⟩)) dX0_levelAt_22 ?_
  refine ca_aload_nr h dX0_levelAt_25 rfl ?_
  refine gi_X0_25 h (hs.1 _ _ _ (by show _ ∧ _; exact ⟨by first | assumption | rfl | omega, by first | assumption | rfl | omega⟩)) dX0_levelAt_26 ?_
  refine ca_iload_n h dX0_levelAt_29 rfl ?_
  refine ca_imul h dX0_levelAt_30 ?_
  refine ca_bipush h dX0_levelAt_31 bk_100 ?_
  refine ca_idiv h dX0_levelAt_33 (by decide) ?_
  refine ca_isub h dX0_levelAt_34 ?_
  refine ca_mmax h hG rfl rfl rfl kw_774 kw_775 kw_16 kw_776 (Nat.le_of_ble_eq_true rfl) dX0_levelAt_35 ?_
  refine ca_ireturn h hR rfl dX0_levelAt_38 ?_
  exact ⟨rfl, rfl, rfl⟩
set_option maxHeartbeats 100000 in
theorem c_X3_cellAt {l : Launch} {E : ch_E} {S : ch_S} {μ : ch_M} {k : Nat} (hs : ch_Std E S) (hk : k < 15) {x : Int32} : ch_C E l yX3_cellAt cX3_cellAt 3 (some (FieldType.object "CellHandover$Cell")) 1 0 0 S μ [.ref (S.1 k 0 0), .int x] (ch_F (some (.ref (S.1 k 1 (k_ix 8 8 x)))) S (μ)) := by
  refine ch_enter rfl rfl ?_
  intro X hl0 h hG hR hnm
  have h : ch_H X E RX3 cX3_cellAt 3 := h
  show ch_W X E 3 S μ 0 0 0 [(0, .ref (S.1 k 0 0)), (1, .int x)] []
  refine ca_iload_n h dX3_cellAt_0 rfl ?_
  refine ca_if_lt (tgt := 22) h dX3_cellAt_1 (by decide) (fun c_1 => ?_) (fun c_1 => ?_)
  ·
    refine ca_null h dX3_cellAt_22 ?_
    refine ca_astore_nn h dX3_cellAt_23 rfl ?_
    refine ca_aload_nn h dX3_cellAt_24 rfl ?_
    refine ca_ifnonnullN h dX3_cellAt_25 ?_
    refine ca_aload_nr h dX3_cellAt_28 rfl ?_
    refine gs_X3_34 h hs (vN hk) dX3_cellAt_29 ?_
    refine ca_goto (tgt := 36) h dX3_cellAt_32 (by decide) ?_
    refine ca_areturn h hR dX3_cellAt_36 ?_
    exact ⟨by simp [k_ix, *], rfl, rfl⟩
  ·
    refine ca_iload_n h dX3_cellAt_4 rfl ?_
    refine ca_aload_nr h dX3_cellAt_5 rfl ?_
    refine gs_X3_11 h hs (vN hk) dX3_cellAt_6 ?_
    refine ca_alenq h rfl (by decide) (hs.1 _ _ _ ⟨hk, rfl⟩) al_8 dX3_cellAt_9 ?_
    refine ca_icmp_ge (tgt := 22) h dX3_cellAt_10 (by decide) (fun c_10 => ?_) (fun c_10 => ?_)
    ·
      refine ca_null h dX3_cellAt_22 ?_
      refine ca_astore_nn h dX3_cellAt_23 rfl ?_
      refine ca_aload_nn h dX3_cellAt_24 rfl ?_
      refine ca_ifnonnullN h dX3_cellAt_25 ?_
      refine ca_aload_nr h dX3_cellAt_28 rfl ?_
      refine gs_X3_34 h hs (vN hk) dX3_cellAt_29 ?_
      refine ca_goto (tgt := 36) h dX3_cellAt_32 (by decide) ?_
      refine ca_areturn h hR dX3_cellAt_36 ?_
      exact ⟨by simp [k_ix, *], rfl, rfl⟩
    ·
      have hin : vp_in x 8 := vp_lt c_1 c_10 rfl (by decide)
      refine ca_aload_nr h dX3_cellAt_13 rfl ?_
      refine gs_X3_11 h hs (vN hk) dX3_cellAt_14 ?_
      refine ca_iload_n h dX3_cellAt_17 rfl ?_
      refine ca_aald h rfl (by decide) rfl (hs.1 _ _ _ ⟨hk, rfl⟩) hin (hs.2.1 k 8 0 (cn x) _ ⟨hk, rfl⟩ (if_pos (cn_in hin))) dX3_cellAt_18 ?_
      refine ca_goto (tgt := 23) h dX3_cellAt_19 (by decide) ?_
      refine ca_astore_n h dX3_cellAt_23 rfl ?_
      refine ca_aload_nr h dX3_cellAt_24 rfl ?_
      refine ca_ifnonnull (tgt := 35) h dX3_cellAt_25 (by decide) ?_
      refine ca_aload_nr h dX3_cellAt_35 rfl ?_
      refine ca_areturn h hR dX3_cellAt_36 ?_
      exact ⟨by simp [k_ix, *], rfl, rfl⟩
set_option maxHeartbeats 100000 in
theorem c_X3_mobileAt {l : Launch} {E : ch_E} {S : ch_S} {μ : ch_M} {k : Nat} (hs : ch_Std E S) (hk : k < 15) {x : Int32} : ch_C E l yX3_mobileAt cX3_mobileAt 3 (some (FieldType.object "CellHandover$Mobile")) 1 0 0 S μ [.ref (S.1 k 0 0), .int x] (ch_F (some (.ref (S.1 k 3 (k_ix 12 12 x)))) S (μ)) := by
  refine ch_enter rfl rfl ?_
  intro X hl0 h hG hR hnm
  have h : ch_H X E RX3 cX3_mobileAt 3 := h
  show ch_W X E 3 S μ 0 0 0 [(0, .ref (S.1 k 0 0)), (1, .int x)] []
  refine ca_iload_n h dX3_mobileAt_0 rfl ?_
  refine ca_if_lt (tgt := 22) h dX3_mobileAt_1 (by decide) (fun c_1 => ?_) (fun c_1 => ?_)
  ·
    refine ca_null h dX3_mobileAt_22 ?_
    refine ca_astore_nn h dX3_mobileAt_23 rfl ?_
    refine ca_aload_nn h dX3_mobileAt_24 rfl ?_
    refine ca_ifnonnullN h dX3_mobileAt_25 ?_
    refine ca_aload_nr h dX3_mobileAt_28 rfl ?_
    refine gs_X3_44 h hs (vN hk) dX3_mobileAt_29 ?_
    refine ca_goto (tgt := 36) h dX3_mobileAt_32 (by decide) ?_
    refine ca_areturn h hR dX3_mobileAt_36 ?_
    exact ⟨by simp [k_ix, *], rfl, rfl⟩
  ·
    refine ca_iload_n h dX3_mobileAt_4 rfl ?_
    refine ca_aload_nr h dX3_mobileAt_5 rfl ?_
    refine gs_X3_25 h hs (vN hk) dX3_mobileAt_6 ?_
    refine ca_alenq h rfl (by decide) (hs.1 _ _ _ ⟨hk, rfl⟩) al_12 dX3_mobileAt_9 ?_
    refine ca_icmp_ge (tgt := 22) h dX3_mobileAt_10 (by decide) (fun c_10 => ?_) (fun c_10 => ?_)
    ·
      refine ca_null h dX3_mobileAt_22 ?_
      refine ca_astore_nn h dX3_mobileAt_23 rfl ?_
      refine ca_aload_nn h dX3_mobileAt_24 rfl ?_
      refine ca_ifnonnullN h dX3_mobileAt_25 ?_
      refine ca_aload_nr h dX3_mobileAt_28 rfl ?_
      refine gs_X3_44 h hs (vN hk) dX3_mobileAt_29 ?_
      refine ca_goto (tgt := 36) h dX3_mobileAt_32 (by decide) ?_
      refine ca_areturn h hR dX3_mobileAt_36 ?_
      exact ⟨by simp [k_ix, *], rfl, rfl⟩
    ·
      have hin : vp_in x 12 := vp_lt c_1 c_10 rfl (by decide)
      refine ca_aload_nr h dX3_mobileAt_13 rfl ?_
      refine gs_X3_25 h hs (vN hk) dX3_mobileAt_14 ?_
      refine ca_iload_n h dX3_mobileAt_17 rfl ?_
      refine ca_aald h rfl (by decide) rfl (hs.1 _ _ _ ⟨hk, rfl⟩) hin (hs.2.1 k 10 0 (cn x) _ ⟨hk, rfl⟩ (if_pos (cn_in hin))) dX3_mobileAt_18 ?_
      refine ca_goto (tgt := 23) h dX3_mobileAt_19 (by decide) ?_
      refine ca_astore_n h dX3_mobileAt_23 rfl ?_
      refine ca_aload_nr h dX3_mobileAt_24 rfl ?_
      refine ca_ifnonnull (tgt := 35) h dX3_mobileAt_25 (by decide) ?_
      refine ca_aload_nr h dX3_mobileAt_35 rfl ?_
      refine ca_areturn h hR dX3_mobileAt_36 ?_
      exact ⟨by simp [k_ix, *], rfl, rfl⟩
set_option maxHeartbeats 100000 in
theorem c_X3_relationAt {l : Launch} {E : ch_E} {S : ch_S} {μ : ch_M} {k : Nat} (hs : ch_Std E S) (hk : k < 15) {x y : Int32} : ch_C E l yX3_relationAt cX3_relationAt 5 (some (FieldType.object "CellHandover$Relation")) 1 0 0 S μ [.ref (S.1 k 0 0), .int x, .int y] (ch_F (some (.ref (S.1 k 2 (k_rx x y)))) S (μ)) := by
  refine ch_enter rfl rfl ?_
  intro X hl0 h hG hR hnm
  have h : ch_H X E RX3 cX3_relationAt 5 := h
  show ch_W X E 5 S μ 0 0 0 [(0, .ref (S.1 k 0 0)), (1, .int x), (2, .int y)] []
  refine ca_iload_n h dX3_relationAt_0 rfl ?_
  refine ca_if_lt (tgt := 20) h dX3_relationAt_1 (by decide) (fun c_1 => ?_) (fun c_1 => ?_)
  ·
    refine ca_aload_nr h dX3_relationAt_20 rfl ?_
    refine gs_X3_39 h hs (vN hk) dX3_relationAt_21 ?_
    refine ca_areturn h hR dX3_relationAt_24 ?_
    exact ⟨by simp [k_rx, *], rfl, rfl⟩
  ·
    refine ca_iload_n h dX3_relationAt_4 rfl ?_
    refine ca_bipush h dX3_relationAt_5 bk_8 ?_
    refine ca_icmp_ge (tgt := 20) h dX3_relationAt_7 (by decide) (fun c_7 => ?_) (fun c_7 => ?_)
    ·
      refine ca_aload_nr h dX3_relationAt_20 rfl ?_
      refine gs_X3_39 h hs (vN hk) dX3_relationAt_21 ?_
      refine ca_areturn h hR dX3_relationAt_24 ?_
      exact ⟨by simp [k_rx, *], rfl, rfl⟩
    ·
      refine ca_iload_n h dX3_relationAt_10 rfl ?_
      refine ca_if_lt (tgt := 20) h dX3_relationAt_11 (by decide) (fun c_11 => ?_) (fun c_11 => ?_)
      ·
        refine ca_aload_nr h dX3_relationAt_20 rfl ?_
        refine gs_X3_39 h hs (vN hk) dX3_relationAt_21 ?_
        refine ca_areturn h hR dX3_relationAt_24 ?_
        exact ⟨by simp [k_rx, *], rfl, rfl⟩
      ·
        refine ca_iload_n h dX3_relationAt_14 rfl ?_
        refine ca_bipush h dX3_relationAt_15 bk_8 ?_
        refine ca_icmp_lt (tgt := 25) h dX3_relationAt_17 (by decide) (fun c_17 => ?_) (fun c_17 => ?_)
        ·
          obtain ⟨a, ha, rfl⟩ := vp_in_of (vp_lt c_1 c_7 (n := 8) rfl (by decide)) (by decide)
          obtain ⟨b, hb, rfl⟩ := vp_in_of (vp_lt c_11 c_17 (n := 8) rfl (by decide)) (by decide)
          have e : nI a * 8 + nI b = nI (8 * a + b) := by rw [show (8 : Int32) = nI 8 from rfl, pk_mul, nI_add]; congr 1; omega
          have hin : vp_in (nI a * 8 + nI b) 64 := by rw [e]; exact vp_in_nI (by omega) (by decide)
          refine ca_iload_n h dX3_relationAt_25 rfl ?_
          refine ca_bipush h dX3_relationAt_26 bk_8 ?_
          refine ca_imul h dX3_relationAt_28 ?_
          refine ca_iload_n h dX3_relationAt_29 rfl ?_
          refine ca_iadd h dX3_relationAt_30 ?_
          refine ca_istore_n h dX3_relationAt_31 rfl ?_
          refine ca_iload_n h dX3_relationAt_32 rfl ?_
          refine ca_aload_nr h dX3_relationAt_33 rfl ?_
          refine gs_X3_19 h hs (vN hk) dX3_relationAt_34 ?_
          refine ca_alenq h rfl (by decide) (hs.1 _ _ _ ⟨hk, rfl⟩) al_64 dX3_relationAt_37 ?_
          refine ca_icmp_ge (tgt := 50) h dX3_relationAt_38 (by decide) (fun c_38 => ?_) (fun c_38 => ?_)
          · exact absurd (by rw [e]; exact nI_lt (b := 64) (by omega) (by decide)) c_38
          ·
            refine ca_aload_nr h dX3_relationAt_41 rfl ?_
            refine gs_X3_19 h hs (vN hk) dX3_relationAt_42 ?_
            refine ca_iload_n h dX3_relationAt_45 rfl ?_
            refine ca_aald h rfl (by decide) rfl (hs.1 _ _ _ ⟨hk, rfl⟩) hin (hs.2.1 k 9 0 (cn (nI a * 8 + nI b)) _ ⟨hk, rfl⟩ (if_pos (cn_in hin))) dX3_relationAt_46 ?_
            refine ca_goto (tgt := 51) h dX3_relationAt_47 (by decide) ?_
            refine ca_astore h dX3_relationAt_51 rfl ?_
            refine ca_aload h dX3_relationAt_53 rfl ?_
            refine ca_ifnonnull (tgt := 65) h dX3_relationAt_55 (by decide) ?_
            refine ca_aload h dX3_relationAt_65 rfl ?_
            refine ca_areturn h hR dX3_relationAt_67 ?_
            exact ⟨by simp [k_rx, *], rfl, rfl⟩
        ·
          refine ca_aload_nr h dX3_relationAt_20 rfl ?_
          refine gs_X3_39 h hs (vN hk) dX3_relationAt_21 ?_
          refine ca_areturn h hR dX3_relationAt_24 ?_
          exact ⟨by simp [k_rx, *], rfl, rfl⟩
/-- how many talk in a cell, among the first i mobiles -/
def k_tk (n : ch_N) (c : Int32) : Nat → Nat
  | 0 => 0
  | i + 1 => if n 3 i 4 = 1 ∧ n 3 i 5 = c then k_tk n c i + 1 else k_tk n c i
def k_rq (n : ch_N) (c : Int32) : Nat → Nat
  | 0 => 0
  | i + 1 => if n 3 i 8 = c then k_rq n c i + 1 else k_rq n c i
/-- how many mobiles, cells there are -/
def k_mc (n : ch_N) : Nat := cn (n 0 0 2)
def k_cc (n : ch_N) : Nat := cn (n 0 0 0)
def k_free (n : ch_N) (c : Int32) : Bool := decide (nI (k_tk n c (k_mc n)) < n 1 (k_ix 8 8 c) 4)
def k_place (n : ch_N) (c : Int32) : Bool := decide (nI (k_rq n c (k_mc n)) < n 1 (k_ix 8 8 c) 5)
theorem k_mob {j : Nat} (h : j < 12) : k_ix 12 12 (nI j) = j := k_ix_in (M := 12) rfl (by decide) h
theorem k_cel {j : Nat} (h : j < 8) : k_ix 8 8 (nI j) = j := k_ix_in (M := 8) rfl (by decide) h
theorem c_X3_mobileJ {l : Launch} {E : ch_E} {S : ch_S} {μ : ch_M} {k j : Nat} (hs : ch_Std E S) (hk : k < 15) (hj : j < 12) : ch_C E l yX3_mobileAt cX3_mobileAt 3 (some (FieldType.object "CellHandover$Mobile")) 1 0 0 S μ [.ref (S.1 k 0 0), .int (nI j)] (ch_F (some (.ref (S.1 k 3 j))) S μ) := by
  have h := c_X3_mobileAt (l := l) (μ := μ) hs hk (x := nI j)
  rw [k_mob hj] at h
  exact h
theorem c_X3_cellJ {l : Launch} {E : ch_E} {S : ch_S} {μ : ch_M} {k j : Nat} (hs : ch_Std E S) (hk : k < 15) (hj : j < 8) : ch_C E l yX3_cellAt cX3_cellAt 3 (some (FieldType.object "CellHandover$Cell")) 1 0 0 S μ [.ref (S.1 k 0 0), .int (nI j)] (ch_F (some (.ref (S.1 k 1 j))) S μ) := by
  have h := c_X3_cellAt (l := l) (μ := μ) hs hk (x := nI j)
  rw [k_cel hj] at h
  exact h
set_option maxHeartbeats 100000 in
theorem c_X3_talkersIn {l : Launch} {E : ch_E} {S : ch_S} {μ : ch_M} {k : Nat} (hs : ch_Std E S) (hk : k < 15) (hm : k_mc (μ k) ≤ 12) {c : Int32} : ch_C E l yX3_talkersIn cX3_talkersIn 5 (some FieldType.int) 2 0 0 S μ [.ref (S.1 k 0 0), .int c] (ch_F (some (.int (nI (k_tk (μ k) c (k_mc (μ k)))))) S (μ)) := by
  refine ch_enter rfl rfl ?_
  intro X hl0 h hG hR hnm
  have h : ch_H X E RX3 cX3_talkersIn 5 := h
  show ch_W X E 5 S μ 0 0 0 [(0, .ref (S.1 k 0 0)), (1, .int c)] []
  refine ca_iconst h dX3_talkersIn_0 ik_0 ?_
  refine ca_istore_n h dX3_talkersIn_1 rfl ?_
  refine ca_iconst h dX3_talkersIn_2 ik_0 ?_
  refine ca_istore_n h dX3_talkersIn_3 rfl ?_
  have loop_4 : ∀ (j n : Nat), n + j = k_mc (μ k) → ∀ (x2 : Int32) (e2 : x2 = nI (k_tk (μ k) c n)) (x3 : Int32) (e3 : x3 = nI n), ch_W X E 5 S μ 0 0 4 [(0, .ref (S.1 k 0 0)), (1, .int c), (2, .int x2), (3, .int x3)] [] := by
    intro j
    induction j with
    | zero =>
      intro n hn x2 e2 x3 e3
      have hn : n = k_mc (μ k) := by omega
      subst e2 e3
      refine ca_iload_n h dX3_talkersIn_4 rfl ?_
      refine ca_aload_nr h dX3_talkersIn_5 rfl ?_
      refine gi_X3_76 h (hs.1 _ _ _ (vN hk)) dX3_talkersIn_6 ?_
      refine ca_icmp_ge (tgt := 46) h dX3_talkersIn_9 (by decide) (fun c_9 => ?_) (fun c_9 => ?_)
      ·
        refine ca_iload_n h dX3_talkersIn_46 rfl ?_
        refine ca_ireturn h hR rfl dX3_talkersIn_47 ?_
        exact ⟨by rw [hn], rfl, rfl⟩
      · exact absurd c_9 (fun z => by have := (lt_cn (x := μ k 0 0 2) (n := n) (by rw [hn]; exact Nat.le_refl _)).mp z; unfold k_mc at hn; omega)
    | succ j ih =>
      intro n hn x2 e2 x3 e3
      have hn1 : n < k_mc (μ k) := by omega
      subst e2 e3
      refine ca_iload_n h dX3_talkersIn_4 rfl ?_
      refine ca_aload_nr h dX3_talkersIn_5 rfl ?_
      refine gi_X3_76 h (hs.1 _ _ _ (vN hk)) dX3_talkersIn_6 ?_
      refine ca_icmp_ge (tgt := 46) h dX3_talkersIn_9 (by decide) (fun c_9 => ?_) (fun c_9 => ?_)
      · exact absurd ((lt_cn (x := μ k 0 0 2) (n := n) (Nat.le_of_lt hn1)).mpr hn1) c_9
      ·
        refine ca_aload_nr h dX3_talkersIn_12 rfl ?_
        refine ca_iload_n h dX3_talkersIn_13 rfl ?_
        refine ca_vr h hG ml_X3_106 (c_X3_mobileJ hs hk (by omega)) (ci := 3) rfl rfl rfl (hs.1 _ _ _ (vN hk)) rfl rfl rfl rfl ⟨Nat.le_refl _, Nat.le_refl _⟩ rfl dX3_talkersIn_14 ?_
        refine ca_astore h dX3_talkersIn_17 rfl ?_
        refine ca_aload h dX3_talkersIn_19 rfl ?_
        refine gi_X3_131 h (hs.1 _ _ _ (by show _ ∧ _; exact ⟨by first | assumption | rfl | omega, by first | assumption | rfl | omega⟩)) dX3_talkersIn_21 ?_
        refine ca_iconst h dX3_talkersIn_24 ik_1 ?_
        refine ca_icmp_ne (tgt := 40) h dX3_talkersIn_25 (by decide) (fun c_25 => ?_) (fun c_25 => ?_)
        ·
          refine ca_iinc h dX3_talkersIn_40 rfl ik_1 rfl ?_
          refine ca_goto (tgt := 4) h dX3_talkersIn_43 (by decide) ?_
          refine ca_pick [2, 3, 4, 0] rfl ?_
          exact ih (n + 1) (by omega) _ (by first | (rw [k_tk, if_pos ⟨by assumption, by assumption⟩, nI_1]) | (rw [k_tk, if_neg (fun q => (by first | exact c_25 q.1 | exact c_34 q.2))])) _ (nI_1 n)
        ·
          refine ca_aload h dX3_talkersIn_28 rfl ?_
          refine gi_X3_134 h (hs.1 _ _ _ (by show _ ∧ _; exact ⟨by first | assumption | rfl | omega, by first | assumption | rfl | omega⟩)) dX3_talkersIn_30 ?_
          refine ca_iload_n h dX3_talkersIn_33 rfl ?_
          refine ca_icmp_ne (tgt := 40) h dX3_talkersIn_34 (by decide) (fun c_34 => ?_) (fun c_34 => ?_)
          ·
            refine ca_iinc h dX3_talkersIn_40 rfl ik_1 rfl ?_
            refine ca_goto (tgt := 4) h dX3_talkersIn_43 (by decide) ?_
            refine ca_pick [2, 3, 4, 0] rfl ?_
            exact ih (n + 1) (by omega) _ (by first | (rw [k_tk, if_pos ⟨by assumption, by assumption⟩, nI_1]) | (rw [k_tk, if_neg (fun q => (by first | exact c_25 q.1 | exact c_34 q.2))])) _ (nI_1 n)
          ·
            refine ca_iinc h dX3_talkersIn_37 rfl ik_1 rfl ?_
            refine ca_iinc h dX3_talkersIn_40 rfl ik_1 rfl ?_
            refine ca_goto (tgt := 4) h dX3_talkersIn_43 (by decide) ?_
            refine ca_pick [3, 4, 1, 0] rfl ?_
            exact ih (n + 1) (by omega) _ (by first | (rw [k_tk, if_pos ⟨by assumption, by assumption⟩, nI_1]) | (rw [k_tk, if_neg (fun q => (by first | exact c_25 q.1 | exact c_34 q.2))])) _ (nI_1 n)
  refine ca_pick [2, 3, 1, 0] rfl ?_
  exact loop_4 _ 0 (Nat.zero_add _) _ rfl _ rfl
