/-! THE SURVEY and THE HISTORY -/
def k_cvg (n : ch_N) (c : Int32) : Nat → Int32 := fun N => kf (fun a r => kf (fun b r => if k_cov n (nI (37 * a)) (nI (37 * b)) = c then r + 1 else r) 28 r) N (0 : Int32)
def k_nr1 (n : ch_N) (s x y m : Int32) (c : Nat) (q : ch_N) : ch_N :=
  if ¬ nI c = s ∧ 0 < k_lv n c x y ∧ ¬ m < k_lv n (k_ix 8 8 s) x y - k_lv n c x y ∧ ¬ s * 8 + nI c < 0 ∧ s * 8 + nI c < 64 then nw q 21 0 (Int32.toNatClampNeg (s * 8 + nI c)) (q 21 0 (Int32.toNatClampNeg (s * 8 + nI c)) + 1) else q
def k_nr (n q : ch_N) (x y m : Int32) : ch_N := kf (k_nr1 n (k_ld n x y (k_cc n)).1 x y m) (k_cc n) q
def k_nrB (n : ch_N) (m : Int32) (a : Nat) : Nat → ch_N → ch_N := kf (fun b q => k_nr n q (nI (37 * a)) (nI (37 * b)) m)
def k_nrA (n : ch_N) (m : Int32) : Nat → ch_N → ch_N := kf (fun a q => k_nrB n m a 28 q)
def k_fmp (n q : ch_N) (a : Nat) : Nat → Bool := fun b => decide (¬ q 21 0 (8 * a + b) < 3 ∧ n 2 (8 * a + b) 0 = 0)
def k_fmO (n q : ch_N) (N : Nat) : Nat → Int32
  | 0 => -1
  | j + 1 => if kq (k_fmp n q (N - (j + 1))) N N = -1 then k_fmO n q N j else nI (N - (j + 1)) * 8 + kq (k_fmp n q (N - (j + 1))) N N
def k_fm (n q : ch_N) (m : Int32) : Int32 := k_fmO n (k_nrA n m 28 (na q 21 0 (fun _ => 0))) (k_cc n) (k_cc n)
theorem kf_s {α : Type} (f : Nat → α → α) (N : Nat) (r : α) : kf f (N + 1) r = f N (kf f N r) := rfl
theorem kf_z {α : Type} (f : Nat → α → α) (r : α) : kf f 0 r = r := rfl
theorem k_cvg_s (n : ch_N) (c : Int32) (a : Nat) : k_cvg n c (a + 1) = kf (fun b r => if k_cov n (nI (37 * a)) (nI (37 * b)) = c then r + 1 else r) 28 (k_cvg n c a) := by unfold k_cvg; rw [kf_s]
theorem k_nrA_s (n : ch_N) (m : Int32) (a : Nat) (q : ch_N) : k_nrA n m (a + 1) q = k_nrB n m a 28 (k_nrA n m a q) := by unfold k_nrA; rw [kf_s]
theorem k_nrB_s (n : ch_N) (m : Int32) (a b : Nat) (q : ch_N) : k_nrB n m a (b + 1) q = k_nr n (k_nrB n m a b q) (nI (37 * a)) (nI (37 * b)) m := by unfold k_nrB; rw [kf_s]
theorem k_nrA_z (n : ch_N) (m : Int32) (q : ch_N) : k_nrA n m 0 q = q := by unfold k_nrA; rw [kf_z]
theorem k_nrB_z (n : ch_N) (m : Int32) (a : Nat) (q : ch_N) : k_nrB n m a 0 q = q := by unfold k_nrB; rw [kf_z]
theorem k_cvg_z (n : ch_N) (c : Int32) : k_cvg n c 0 = 0 := by unfold k_cvg; rw [kf_z]
theorem nI37 (a : Nat) : nI (37 * a) + 37 = nI (37 * (a + 1)) := by
  rw [show (37 : Int32) = nI 37 from rfl, nI_add]; congr 1
def k_nx (x : Int32) : Int32 := if x + 1 < 12 then x + 1 else 0
def k_lx (j : Nat) : Nat := if 0 < j then j - 1 else 11
def k_rec (q : ch_N) : ch_N := nw (nw q 14 0 1 (k_nx (q 14 0 1))) 14 0 0 (k_min (q 14 0 0 + 1) 12)
def k_tkb (q : ch_N) (j : Nat) : ch_N := nw (nw q 14 0 1 (nI (k_lx j))) 14 0 0 (q 14 0 0 - 1)
theorem rec2 {μ : ch_M} {a : Nat} (h : a ≠ 15) (x q : ch_N) : up (up (up μ a x) 15 q) 15 q = up (up μ a x) 15 q := up_up _ _ _ _
set_option maxHeartbeats 100000 in
theorem c_X1_forget {l : Launch} {E : ch_E} {S : ch_S} {μ : ch_M} (hs : ch_Std E S) : ch_C E l yX1_forget cX1_forget 1 none 1 0 0 S μ [.ref (S.1 15 14 0)] (ch_F none S (up μ 15 (nw (μ 15) 14 0 0 0))) := by
  refine ch_enter rfl rfl ?_
  intro X hl0 h hG hR hnm
  have h : ch_H X E RX1 cX1_forget 1 := h
  show ch_W X E 1 S μ 0 0 0 [(0, .ref (S.1 15 14 0))] []
  refine ca_aload_nr h dX1_forget_0 rfl ?_
  refine ca_iconst h dX1_forget_1 ik_0 ?_
  refine pi_X1_18 h (hs.1 _ _ _ ⟨rfl, rfl⟩) dX1_forget_2 ?_
  refine ca_vreturn h hR dX1_forget_5 ?_
  exact ⟨rfl, rfl, rfl⟩
set_option maxHeartbeats 100000 in
theorem c_X1_record {l : Launch} {E : ch_E} {S : ch_S} {μ : ch_M} {k j : Nat} (hs : ch_Std E S) (hk : k < 3) (hj : j < 12) (hnx : μ 15 14 0 1 = nI j) : ch_C E l yX1_record cX1_record 3 none 4 0 0 S μ [.ref (S.1 15 14 0), .ref (S.1 k 0 0)] (ch_F none S (up (up μ (3 + j) (k_cp (μ (3 + j)) (μ k))) 15 (k_rec (μ 15)))) := by
  refine ch_enter rfl rfl ?_
  intro X hl0 h hG hR hnm
  have h : ch_H X E RX1 cX1_record 3 := h
  have hj15 : 3 + j ≠ 15 := by omega
  show ch_W X E 3 S μ 0 0 0 [(0, .ref (S.1 15 14 0)), (1, .ref (S.1 k 0 0))] []
  refine ca_aload_nr h dX1_record_0 rfl ?_
  refine gi_X1_22 h (hs.1 _ _ _ ⟨rfl, rfl⟩) dX1_record_1 ?_
  refine ca_if_lt (tgt := 31) h dX1_record_4 (by decide) (fun c_4 => ?_) (fun c_4 => ?_)
  · exact absurd c_4 (by rw [hnx]; exact nI_pos (by omega))
  ·
    refine ca_aload_nr h dX1_record_7 rfl ?_
    refine gi_X1_22 h (hs.1 _ _ _ ⟨rfl, rfl⟩) dX1_record_8 ?_
    refine ca_aload_nr h dX1_record_11 rfl ?_
    refine gs_X1_11 h hs ⟨rfl, rfl⟩ dX1_record_12 ?_
    refine ca_alenq h rfl (by decide) (hs.1 _ _ _ ⟨rfl, rfl⟩) al_12 dX1_record_15 ?_
    refine ca_icmp_ge (tgt := 31) h dX1_record_16 (by decide) (fun c_16 => ?_) (fun c_16 => ?_)
    · exact absurd (by rw [hnx]; exact nI_lt (b := 12) hj (by decide)) c_16
    ·
      have hin : vp_in (μ 15 14 0 1) 12 := by rw [hnx]; exact vp_in_nI hj (by decide)
      have hrf : S.2.2 15 15 0 (Int32.toNatClampNeg (μ 15 14 0 1)) = some (S.1 (3 + j) 0 0) := by rw [hnx, nI_clamp (show j < 2 ^ 31 by omega)]; exact hs.2.1 15 15 0 j (3 + j, 0, 0) ⟨rfl, rfl⟩ (if_pos hj)
      refine ca_aload_nr h dX1_record_19 rfl ?_
      refine gs_X1_11 h hs ⟨rfl, rfl⟩ dX1_record_20 ?_
      refine ca_aload_nr h dX1_record_23 rfl ?_
      refine gi_X1_22 h (hs.1 _ _ _ ⟨rfl, rfl⟩) dX1_record_24 ?_
      refine ca_aald h rfl (by decide) rfl (hs.1 _ _ _ ⟨rfl, rfl⟩) hin hrf dX1_record_27 ?_
      refine ca_goto (tgt := 32) h dX1_record_28 (by decide) ?_
      refine ca_astore_n h dX1_record_32 rfl ?_
      refine ca_aload_nr h dX1_record_33 rfl ?_
      refine ca_ifnonnull (tgt := 38) h dX1_record_34 (by decide) ?_
      refine ca_aload_nr h dX1_record_38 rfl ?_
      refine ca_aload_nr h dX1_record_39 rfl ?_
      refine ca_vv h hG ml_X1_25 (c_X3_copyFrom hs (by omega) (by omega) (by omega)) (ci := 3) rfl rfl rfl (hs.1 _ _ _ ⟨by omega, rfl⟩) rfl rfl rfl rfl ⟨Nat.le_refl _, Nat.le_refl _⟩ rfl dX1_record_40 ?_
      refine ca_aload_nr h dX1_record_43 rfl ?_
      refine ca_aload_nr h dX1_record_44 rfl ?_
      refine gi_X1_22 h (hs.1 _ _ _ ⟨rfl, rfl⟩) dX1_record_45 ?_
      refine ca_iconst h dX1_record_48 ik_1 ?_
      refine ca_iadd h dX1_record_49 ?_
      refine ca_bipush h dX1_record_50 bk_12 ?_
      refine ca_icmp_ge (tgt := 64) h dX1_record_52 (by decide) (fun c_52 => ?_) (fun c_52 => ?_)
      ·
        refine ca_iconst h dX1_record_64 ik_0 ?_
        refine pi_X1_22 h (hs.1 _ _ _ ⟨rfl, rfl⟩) dX1_record_65 ?_
        refine ca_aload_nr h dX1_record_68 rfl ?_
        refine ca_aload_nr h dX1_record_69 rfl ?_
        refine gi_X1_18 h (hs.1 _ _ _ ⟨rfl, rfl⟩) dX1_record_70 ?_
        refine ca_iconst h dX1_record_73 ik_1 ?_
        refine ca_iadd h dX1_record_74 ?_
        refine ca_bipush h dX1_record_75 bk_12 ?_
        refine ca_mmin h hG rfl rfl rfl kw_523 kw_517 kw_15 kw_518 (Nat.le_of_ble_eq_true rfl) dX1_record_77 ?_
        refine pi_X1_18 h (hs.1 _ _ _ ⟨rfl, rfl⟩) dX1_record_80 ?_
        refine ca_vreturn h hR dX1_record_83 ?_
        have e1 : k_nx (μ 15 14 0 1) = _ := if_neg (by have c9 := c_52; rw [up_n (Ne.symm hj15)] at c9; exact c9)
        exact ⟨rfl, rfl, by unfold k_rec; rw [e1]; simp only [ch_st_nw, up_s, up_n (Ne.symm hj15), up_up]; simp only [nw_at]; rfl⟩
      ·
        refine ca_aload_nr h dX1_record_55 rfl ?_
        refine gi_X1_22 h (hs.1 _ _ _ ⟨rfl, rfl⟩) dX1_record_56 ?_
        refine ca_iconst h dX1_record_59 ik_1 ?_
        refine ca_iadd h dX1_record_60 ?_
        refine ca_goto (tgt := 65) h dX1_record_61 (by decide) ?_
        refine pi_X1_22 h (hs.1 _ _ _ ⟨rfl, rfl⟩) dX1_record_65 ?_
        refine ca_aload_nr h dX1_record_68 rfl ?_
        refine ca_aload_nr h dX1_record_69 rfl ?_
        refine gi_X1_18 h (hs.1 _ _ _ ⟨rfl, rfl⟩) dX1_record_70 ?_
        refine ca_iconst h dX1_record_73 ik_1 ?_
        refine ca_iadd h dX1_record_74 ?_
        refine ca_bipush h dX1_record_75 bk_12 ?_
        refine ca_mmin h hG rfl rfl rfl kw_523 kw_517 kw_15 kw_518 (Nat.le_of_ble_eq_true rfl) dX1_record_77 ?_
        refine pi_X1_18 h (hs.1 _ _ _ ⟨rfl, rfl⟩) dX1_record_80 ?_
        refine ca_vreturn h hR dX1_record_83 ?_
        have e1 : k_nx (μ 15 14 0 1) = _ := if_pos (by have c9 := c_52; rw [up_n (Ne.symm hj15)] at c9; exact c9)
        exact ⟨rfl, rfl, by unfold k_rec; rw [e1]; simp only [ch_st_nw, up_s, up_n (Ne.symm hj15), up_up]; simp only [nw_at]; rfl⟩
set_option maxHeartbeats 100000 in
theorem c_X1_takeBack {l : Launch} {E : ch_E} {S : ch_S} {μ : ch_M} {k j : Nat} (hs : ch_Std E S) (hk : k < 3) (hj : j < 12) (hnx : μ 15 14 0 1 = nI j) : ch_C E l yX1_takeBack cX1_takeBack 4 none 4 0 0 S μ [.ref (S.1 15 14 0), .ref (S.1 k 0 0)] (ch_F none S (up (up μ k (k_cp (μ k) (μ (3 + k_lx j)))) 15 (k_tkb (μ 15) j))) := by
  refine ch_enter rfl rfl ?_
  intro X hl0 h hG hR hnm
  have h : ch_H X E RX1 cX1_takeBack 4 := h
  have hk15 : k ≠ 15 := by omega
  show ch_W X E 4 S μ 0 0 0 [(0, .ref (S.1 15 14 0)), (1, .ref (S.1 k 0 0))] []
  refine ca_aload_nr h dX1_takeBack_0 rfl ?_
  refine gi_X1_22 h (hs.1 _ _ _ ⟨rfl, rfl⟩) dX1_takeBack_1 ?_
  refine ca_if_le (tgt := 16) h dX1_takeBack_4 (by decide) (fun c_4 => ?_) (fun c_4 => ?_)
  ·
    refine ca_bipush h dX1_takeBack_16 bk_11 ?_
    have hlx : k_lx j < 12 := by unfold k_lx; split <;> omega
    have hrf : S.2.2 15 15 0 (Int32.toNatClampNeg (nI (k_lx j))) = some (S.1 (3 + k_lx j) 0 0) := by rw [nI_clamp (show k_lx j < 2 ^ 31 by omega)]; exact hs.2.1 15 15 0 (k_lx j) (3 + k_lx j, 0, 0) ⟨rfl, rfl⟩ (if_pos hlx)
    refine ca_top (show _ = nI (k_lx j) from ?_) ?_
    · have c9 := c_4
      rw [hnx] at c9
      have hj0 : j = 0 := by rcases Nat.eq_zero_or_pos j with z | z; exact z; exact absurd (nI_lt z (by omega)) c9
      subst hj0; rfl
    refine ca_istore_n h dX1_takeBack_18 rfl ?_
    refine ca_iload_n h dX1_takeBack_19 rfl ?_
    refine ca_aload_nr h dX1_takeBack_20 rfl ?_
    refine gs_X1_11 h hs ⟨rfl, rfl⟩ dX1_takeBack_21 ?_
    refine ca_alenq h rfl (by decide) (hs.1 _ _ _ ⟨rfl, rfl⟩) al_12 dX1_takeBack_24 ?_
    refine ca_icmp_ge (tgt := 37) h dX1_takeBack_25 (by decide) (fun c_25 => ?_) (fun c_25 => ?_)
    · exact absurd (nI_lt (b := 12) hlx (by decide)) c_25
    ·
      refine ca_aload_nr h dX1_takeBack_28 rfl ?_
      refine gs_X1_11 h hs ⟨rfl, rfl⟩ dX1_takeBack_29 ?_
      refine ca_iload_n h dX1_takeBack_32 rfl ?_
      refine ca_aald h rfl (by decide) rfl (hs.1 _ _ _ ⟨rfl, rfl⟩) (vp_in_nI hlx (by decide)) hrf dX1_takeBack_33 ?_
      refine ca_goto (tgt := 38) h dX1_takeBack_34 (by decide) ?_
      refine ca_astore_n h dX1_takeBack_38 rfl ?_
      refine ca_aload_nr h dX1_takeBack_39 rfl ?_
      refine ca_ifnonnull (tgt := 44) h dX1_takeBack_40 (by decide) ?_
      refine ca_aload_nr h dX1_takeBack_44 rfl ?_
      refine ca_aload_nr h dX1_takeBack_45 rfl ?_
      refine ca_vv h hG ml_X1_25 (c_X3_copyFrom hs (by omega) (by omega) (by omega)) (ci := 3) rfl rfl rfl (hs.1 _ _ _ ⟨by omega, rfl⟩) rfl rfl rfl rfl ⟨Nat.le_refl _, Nat.le_refl _⟩ rfl dX1_takeBack_46 ?_
      refine ca_aload_nr h dX1_takeBack_49 rfl ?_
      refine ca_iload_n h dX1_takeBack_50 rfl ?_
      refine pi_X1_22 h (hs.1 _ _ _ ⟨rfl, rfl⟩) dX1_takeBack_51 ?_
      refine ca_aload_nr h dX1_takeBack_54 rfl ?_
      refine ca_dup h dX1_takeBack_55 rfl ?_
      refine gi_X1_18 h (hs.1 _ _ _ ⟨rfl, rfl⟩) dX1_takeBack_56 ?_
      refine ca_iconst h dX1_takeBack_59 ik_1 ?_
      refine ca_isub h dX1_takeBack_60 ?_
      refine pi_X1_18 h (hs.1 _ _ _ ⟨rfl, rfl⟩) dX1_takeBack_61 ?_
      refine ca_vreturn h hR dX1_takeBack_64 ?_
      exact ⟨rfl, rfl, by unfold k_tkb; simp only [ch_st_nw, up_s, up_n (Ne.symm hk15), up_up]; simp only [nw_at]; rfl⟩
  ·
    refine ca_aload_nr h dX1_takeBack_7 rfl ?_
    refine gi_X1_22 h (hs.1 _ _ _ ⟨rfl, rfl⟩) dX1_takeBack_8 ?_
    refine ca_iconst h dX1_takeBack_11 ik_1 ?_
    refine ca_isub h dX1_takeBack_12 ?_
    refine ca_goto (tgt := 18) h dX1_takeBack_13 (by decide) ?_
    have hlx : k_lx j < 12 := by unfold k_lx; split <;> omega
    have hrf : S.2.2 15 15 0 (Int32.toNatClampNeg (nI (k_lx j))) = some (S.1 (3 + k_lx j) 0 0) := by rw [nI_clamp (show k_lx j < 2 ^ 31 by omega)]; exact hs.2.1 15 15 0 (k_lx j) (3 + k_lx j, 0, 0) ⟨rfl, rfl⟩ (if_pos hlx)
    refine ca_top (show _ = nI (k_lx j) from ?_) ?_
    · have c9 := c_4
      rw [hnx] at c9
      have hj0 : 0 < j := by rcases Nat.eq_zero_or_pos j with z | z; subst z; exact absurd c9 (by decide); exact z
      rw [hnx, show (1 : Int32) = nI 1 from rfl, pk_sub hj0]; unfold k_lx; rw [if_pos hj0]
    refine ca_istore_n h dX1_takeBack_18 rfl ?_
    refine ca_iload_n h dX1_takeBack_19 rfl ?_
    refine ca_aload_nr h dX1_takeBack_20 rfl ?_
    refine gs_X1_11 h hs ⟨rfl, rfl⟩ dX1_takeBack_21 ?_
    refine ca_alenq h rfl (by decide) (hs.1 _ _ _ ⟨rfl, rfl⟩) al_12 dX1_takeBack_24 ?_
    refine ca_icmp_ge (tgt := 37) h dX1_takeBack_25 (by decide) (fun c_25 => ?_) (fun c_25 => ?_)
    · exact absurd (nI_lt (b := 12) hlx (by decide)) c_25
    ·
      refine ca_aload_nr h dX1_takeBack_28 rfl ?_
      refine gs_X1_11 h hs ⟨rfl, rfl⟩ dX1_takeBack_29 ?_
      refine ca_iload_n h dX1_takeBack_32 rfl ?_
      refine ca_aald h rfl (by decide) rfl (hs.1 _ _ _ ⟨rfl, rfl⟩) (vp_in_nI hlx (by decide)) hrf dX1_takeBack_33 ?_
      refine ca_goto (tgt := 38) h dX1_takeBack_34 (by decide) ?_
      refine ca_astore_n h dX1_takeBack_38 rfl ?_
      refine ca_aload_nr h dX1_takeBack_39 rfl ?_
      refine ca_ifnonnull (tgt := 44) h dX1_takeBack_40 (by decide) ?_
      refine ca_aload_nr h dX1_takeBack_44 rfl ?_
      refine ca_aload_nr h dX1_takeBack_45 rfl ?_
      refine ca_vv h hG ml_X1_25 (c_X3_copyFrom hs (by omega) (by omega) (by omega)) (ci := 3) rfl rfl rfl (hs.1 _ _ _ ⟨by omega, rfl⟩) rfl rfl rfl rfl ⟨Nat.le_refl _, Nat.le_refl _⟩ rfl dX1_takeBack_46 ?_
      refine ca_aload_nr h dX1_takeBack_49 rfl ?_
      refine ca_iload_n h dX1_takeBack_50 rfl ?_
      refine pi_X1_22 h (hs.1 _ _ _ ⟨rfl, rfl⟩) dX1_takeBack_51 ?_
      refine ca_aload_nr h dX1_takeBack_54 rfl ?_
      refine ca_dup h dX1_takeBack_55 rfl ?_
      refine gi_X1_18 h (hs.1 _ _ _ ⟨rfl, rfl⟩) dX1_takeBack_56 ?_
      refine ca_iconst h dX1_takeBack_59 ik_1 ?_
      refine ca_isub h dX1_takeBack_60 ?_
      refine pi_X1_18 h (hs.1 _ _ _ ⟨rfl, rfl⟩) dX1_takeBack_61 ?_
      refine ca_vreturn h hR dX1_takeBack_64 ?_
      exact ⟨rfl, rfl, by unfold k_tkb; simp only [ch_st_nw, up_s, up_n (Ne.symm hk15), up_up]; simp only [nw_at]; rfl⟩
