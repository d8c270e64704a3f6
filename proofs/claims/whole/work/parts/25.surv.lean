/-! THE SURVEY and THE HISTORY -/
def k_cvg (n : ch_N) (c : Int32) : Nat → Int32 := fun N => kf (fun a r => kf (fun b r => if k_cov n (nI (37 * a)) (nI (37 * b)) = c then r + 1 else r) 28 r) N (0 : Int32)
def k_nr1 (n : ch_N) (s x y m : Int32) (c : Nat) (q : ch_N) : ch_N :=
  if ¬ nI c = s ∧ 0 < k_lv n c x y ∧ ¬ m < k_lv n (k_ix 8 8 s) x y - k_lv n c x y ∧ ¬ s * 8 + nI c < 0 ∧ s * 8 + nI c < 64 then nw q 21 0 (Int32.toNatClampNeg (s * 8 + nI c)) (q 21 0 (Int32.toNatClampNeg (s * 8 + nI c)) + 1) else q
def k_nr (n q : ch_N) (x y m : Int32) : ch_N := kf (k_nr1 n (k_ld n x y (k_cc n)).1 x y m) (k_cc n) q
def k_nrB (n : ch_N) (m : Int32) (a : Nat) : Nat → ch_N → ch_N := kf (fun b q => k_nr n q (nI (37 * a)) (nI (37 * b)) m)
def k_nrA (n : ch_N) (m : Int32) : Nat → ch_N → ch_N := kf (fun a q => k_nrB n m a 28 q)
def k_fmp (n q : ch_N) (a : Nat) : Nat → Bool := fun b => decide (¬ q 21 0 (8 * a + b) < 3 ∧ n 2 (8 * a + b) 0 = 0)
def k_fmO (n q : ch_N) (N : Nat) : Nat → Int32
  | 0 => -1
  | j + 1 => if kq (k_fmp n q (N - (j + 1))) N N = -1 then k_fmO n q N j else nI (N - (j + 1)) * 8 + kq (k_fmp n q (N - (j + 1))) N N
def k_fm (n q : ch_N) (m : Int32) : Int32 := k_fmO n (k_nrA n m 28 (na q 21 0 (fun _ => 0))) (k_cc n) (k_cc n)
theorem kf_s {α : Type} (f : Nat → α → α) (N : Nat) (r : α) : kf f (N + 1) r = f N (kf f N r) := rfl
theorem kf_z {α : Type} (f : Nat → α → α) (r : α) : kf f 0 r = r := rfl
theorem k_cvg_s (n : ch_N) (c : Int32) (a : Nat) : k_cvg n c (a + 1) = kf (fun b r => if k_cov n (nI (37 * a)) (nI (37 * b)) = c then r + 1 else r) 28 (k_cvg n c a) := by unfold k_cvg; rw [kf_s]
theorem k_nrA_s (n : ch_N) (m : Int32) (a : Nat) (q : ch_N) : k_nrA n m (a + 1) q = k_nrB n m a 28 (k_nrA n m a q) := by unfold k_nrA; rw [kf_s]
theorem k_nrB_s (n : ch_N) (m : Int32) (a b : Nat) (q : ch_N) : k_nrB n m a (b + 1) q = k_nr n (k_nrB n m a b q) (nI (37 * a)) (nI (37 * b)) m := by unfold k_nrB; rw [kf_s]
theorem k_nrA_z (n : ch_N) (m : Int32) (q : ch_N) : k_nrA n m 0 q = q := by unfold k_nrA; rw [kf_z]
theorem k_nrB_z (n : ch_N) (m : Int32) (a : Nat) (q : ch_N) : k_nrB n m a 0 q = q := by unfold k_nrB; rw [kf_z]
theorem k_cvg_z (n : ch_N) (c : Int32) : k_cvg n c 0 = 0 := by unfold k_cvg; rw [kf_z]
theorem nI37 (a : Nat) : nI (37 * a) + 37 = nI (37 * (a + 1)) := by
  rw [show (37 : Int32) = nI 37 from rfl, nI_add]; congr 1
def k_nx (x : Int32) : Int32 := if x + 1 < 12 then x + 1 else 0
def k_lx (j : Nat) : Nat := if 0 < j then j - 1 else 11
def k_rec (q : ch_N) : ch_N := nw (nw q 14 0 1 (k_nx (q 14 0 1))) 14 0 0 (k_min (q 14 0 0 + 1) 12)
def k_tkb (q : ch_N) (j : Nat) : ch_N := nw (nw q 14 0 1 (nI (k_lx j))) 14 0 0 (q 14 0 0 - 1)
theorem rec2 {μ : ch_M} {a : Nat} (h : a ≠ 15) (x q : ch_N) : up (up (up μ a x) 15 q) 15 q = up (up μ a x) 15 q := up_up _ _ _ _
set_option maxHeartbeats 100000 in
theorem c_X9_countCovered {l : Launch} {E : ch_E} {S : ch_S} {μ : ch_M} {k : Nat} (hs : ch_Std E S) (hk : k < 15) (hc : k_cc (μ k) ≤ 8) {c : Int32} : ch_C E l yX9_countCovered cX9_countCovered 6 (some FieldType.int) 4 0 0 S μ [.ref (S.1 15 20 0), .ref (S.1 k 0 0), .int c] (ch_F (some (.int (k_cvg (μ k) c 28))) S (μ)) := by
  refine ch_enter rfl rfl ?_
  intro X hl0 h hG hR hnm
  have h : ch_H X E RX9 cX9_countCovered 6 := h
  show ch_W X E 6 S μ 0 0 0 [(0, .ref (S.1 15 20 0)), (1, .ref (S.1 k 0 0)), (2, .int c)] []
  refine ca_iconst h dX9_countCovered_0 ik_0 ?_
  refine ca_istore_n h dX9_countCovered_1 rfl ?_
  refine ca_iconst h dX9_countCovered_2 ik_0 ?_
  refine ca_istore h dX9_countCovered_3 rfl ?_
  have loop_5 : ∀ (jj a : Nat), a + jj = 28 → ∀ (x3 : Int32) (e3 : x3 = k_cvg (μ k) c a) (x4 : Int32) (e4 : x4 = nI (37 * a)), ch_W X E 6 S μ 0 0 5 [(0, .ref (S.1 15 20 0)), (1, .ref (S.1 k 0 0)), (2, .int c), (3, .int x3), (4, .int x4)] [] := by
    intro jj
    induction jj with
    | zero =>
      intro a hn x3 e3 x4 e4
      have hn : a = 28 := by omega
      subst e3 e4
      refine ca_iload h dX9_countCovered_5 rfl ?_
      refine ca_sipush h dX9_countCovered_7 sk_999 ?_
      refine ca_icmp_gt (tgt := 51) h dX9_countCovered_10 (by decide) (fun c_10 => ?_) (fun c_10 => ?_)
      ·
        refine ca_iload_n h dX9_countCovered_51 rfl ?_
        refine ca_ireturn h hR rfl dX9_countCovered_52 ?_
        exact ⟨by rw [hn], rfl, rfl⟩
      · exact absurd (by rw [hn]; decide) c_10
    | succ jj ih_5 =>
      intro a hn x3 e3 x4 e4
      have hn1 : a < 28 := by omega
      subst e3 e4
      refine ca_iload h dX9_countCovered_5 rfl ?_
      refine ca_sipush h dX9_countCovered_7 sk_999 ?_
      refine ca_icmp_gt (tgt := 51) h dX9_countCovered_10 (by decide) (fun c_10 => ?_) (fun c_10 => ?_)
      · exact absurd c_10 (nI_nlt (a := 999) (by omega) (by decide))
      ·
        refine ca_iconst h dX9_countCovered_13 ik_0 ?_
        refine ca_istore h dX9_countCovered_14 rfl ?_
        have loop_16 : ∀ (jj b : Nat), b + jj = 28 → ∀ (x3 : Int32) (e3 : x3 = kf (fun b r => if k_cov (μ k) (nI (37 * a)) (nI (37 * b)) = c then r + 1 else r) b (k_cvg (μ k) c a)) (x5 : Int32) (e5 : x5 = nI (37 * b)), ch_W X E 6 S μ 0 0 16 [(0, .ref (S.1 15 20 0)), (1, .ref (S.1 k 0 0)), (2, .int c), (3, .int x3), (4, .int (nI (37 * a))), (5, .int x5)] [] := by
          intro jj
          induction jj with
          | zero =>
            intro b hn x3 e3 x5 e5
            have hn : b = 28 := by omega
            subst e3 e5
            refine ca_iload h dX9_countCovered_16 rfl ?_
            refine ca_sipush h dX9_countCovered_18 sk_999 ?_
            refine ca_icmp_gt (tgt := 45) h dX9_countCovered_21 (by decide) (fun c_21 => ?_) (fun c_21 => ?_)
            ·
              refine ca_iinc h dX9_countCovered_45 rfl (v := 37) (by decide) rfl ?_
              refine ca_goto (tgt := 5) h dX9_countCovered_48 (by decide) ?_
              refine ca_pick [1, 2, 3, 4, 0] rfl ?_
              exact ih_5 (a + 1) (by omega) _ (by rw [hn, k_cvg_s]) _ (nI37 a)
            · exact absurd (by rw [hn]; decide) c_21
          | succ jj ih_16 =>
            intro b hn x3 e3 x5 e5
            have hn1 : b < 28 := by omega
            subst e3 e5
            refine ca_iload h dX9_countCovered_16 rfl ?_
            refine ca_sipush h dX9_countCovered_18 sk_999 ?_
            refine ca_icmp_gt (tgt := 45) h dX9_countCovered_21 (by decide) (fun c_21 => ?_) (fun c_21 => ?_)
            · exact absurd c_21 (nI_nlt (a := 999) (by omega) (by decide))
            ·
              refine ca_aload_nr h dX9_countCovered_24 rfl ?_
              refine ca_iload h dX9_countCovered_25 rfl ?_
              refine ca_iload h dX9_countCovered_27 rfl ?_
              refine ca_vi h hG ml_X9_15 (c_X3_coveringCell hs hk (by assumption)) (ci := 3) rfl rfl rfl (hs.1 _ _ _ (by show _ ∧ _; exact ⟨by first | assumption | rfl | omega, by first | assumption | rfl | omega⟩)) rfl rfl rfl rfl ⟨Nat.le_refl _, Nat.le_refl _⟩ rfl dX9_countCovered_29 ?_
              refine ca_iload_n h dX9_countCovered_32 rfl ?_
              refine ca_icmp_ne (tgt := 39) h dX9_countCovered_33 (by decide) (fun c_33 => ?_) (fun c_33 => ?_)
              ·
                refine ca_iinc h dX9_countCovered_39 rfl (v := 37) (by decide) rfl ?_
                refine ca_goto (tgt := 16) h dX9_countCovered_42 (by decide) ?_
                refine ca_pick [1, 2, 3, 4, 5, 0] rfl ?_
                exact ih_16 (b + 1) (by omega) _ (by simp [kf, c_33]) _ (nI37 b)
              ·
                refine ca_iinc h dX9_countCovered_36 rfl ik_1 rfl ?_
                refine ca_iinc h dX9_countCovered_39 rfl (v := 37) (by decide) rfl ?_
                refine ca_goto (tgt := 16) h dX9_countCovered_42 (by decide) ?_
                refine ca_pick [2, 3, 4, 1, 5, 0] rfl ?_
                exact ih_16 (b + 1) (by omega) _ (by simp [kf, c_33]) _ (nI37 b)
        refine ca_pick [1, 2, 3, 4, 5, 0] rfl ?_
        exact loop_16 _ 0 (Nat.zero_add _) _ (kf_z _ _).symm _ rfl
  refine ca_pick [2, 3, 4, 1, 0] rfl ?_
  exact loop_5 _ 0 (Nat.zero_add _) _ (k_cvg_z _ _).symm _ rfl
set_option maxHeartbeats 100000 in
theorem c_X9_countNear {l : Launch} {E : ch_E} {S : ch_S} {μ : ch_M} {k : Nat} (hs : ch_Std E S) (hk : k < 15) (hc : k_cc (μ k) ≤ 8) {x y m : Int32} : ch_C E l yX9_countNear cX9_countNear 10 none 3 0 0 S μ [.ref (S.1 15 20 0), .ref (S.1 k 0 0), .int x, .int y, .int m] (ch_F none S (up μ 15 (k_nr (μ k) (μ 15) x y m))) := by
  refine ch_enter rfl rfl ?_
  intro X hl0 h hG hR hnm
  have h : ch_H X E RX9 cX9_countNear 10 := h
  have hk15 : k ≠ 15 := by omega
  obtain ⟨s, hsv⟩ : ∃ z, z = (k_ld (μ k) x y (k_cc (μ k))).1 := ⟨_, rfl⟩
  show ch_W X E 10 S μ 0 0 0 [(0, .ref (S.1 15 20 0)), (1, .ref (S.1 k 0 0)), (2, .int x), (3, .int y), (4, .int m)] []
  refine ca_aload_nr h dX9_countNear_0 rfl ?_
  refine ca_iload_n h dX9_countNear_1 rfl ?_
  refine ca_iload_n h dX9_countNear_2 rfl ?_
  refine ca_vi h hG ml_X9_45 (c_X3_loudestCell hs hk hc) (ci := 3) rfl rfl rfl (hs.1 _ _ _ (by show _ ∧ _; exact ⟨by first | assumption | rfl | omega, by first | assumption | rfl | omega⟩)) rfl rfl rfl rfl ⟨Nat.le_refl _, Nat.le_refl _⟩ rfl dX9_countNear_3 ?_
  refine ca_top hsv.symm ?_
  refine ca_istore h dX9_countNear_6 rfl ?_
  refine ca_aload_nr h dX9_countNear_8 rfl ?_
  refine ca_iload h dX9_countNear_9 rfl ?_
  refine ca_vr h hG ml_X9_48 (c_X3_cellAt hs (by assumption)) (ci := 3) rfl rfl rfl (hs.1 _ _ _ (by show _ ∧ _; exact ⟨by first | assumption | rfl | omega, by first | assumption | rfl | omega⟩)) rfl rfl rfl rfl ⟨Nat.le_refl _, Nat.le_refl _⟩ rfl dX9_countNear_11 ?_
  refine ca_iload_n h dX9_countNear_14 rfl ?_
  refine ca_iload_n h dX9_countNear_15 rfl ?_
  refine ca_vi h hG ml_X9_52 (c_X0_levelAt hs hk (k_ixc _)) (ci := 0) rfl rfl rfl (hs.1 _ _ _ (vC hk (k_ixc _))) rfl rfl rfl rfl ⟨Nat.le_refl _, Nat.le_refl _⟩ rfl dX9_countNear_16 ?_
  refine ca_istore h dX9_countNear_19 rfl ?_
  refine ca_iconst h dX9_countNear_21 ik_0 ?_
  refine ca_istore h dX9_countNear_22 rfl ?_
  have loop_24 : ∀ (jj n : Nat), n + jj = k_cc (μ k) → ∀ (x7 : Int32) (e7 : x7 = nI n) (mm : ch_M) (em : mm = up μ 15 (kf (k_nr1 (μ k) s x y m) n (μ 15))), ch_W X E 10 S mm 0 0 24 [(0, .ref (S.1 15 20 0)), (1, .ref (S.1 k 0 0)), (2, .int x), (3, .int y), (4, .int m), (5, .int s), (6, .int (k_lv (μ k) (k_ix 8 8 s) x y)), (7, .int x7)] [] := by
    intro jj
    induction jj with
    | zero =>
      intro n hn x7 e7 mm em
      have hn : n = k_cc (μ k) := by omega
      subst e7 em
      refine ca_iload h dX9_countNear_24 rfl ?_
      refine ca_aload_nr h dX9_countNear_26 rfl ?_
      refine gi_X9_31 h (hs.1 _ _ _ (by show _ ∧ _; exact ⟨by first | assumption | rfl | omega, by first | assumption | rfl | omega⟩)) dX9_countNear_27 ?_
      refine ca_icmp_ge (tgt := 110) h dX9_countNear_30 (by decide) (fun c_30 => ?_) (fun c_30 => ?_)
      ·
        refine ca_vreturn h hR dX9_countNear_110 ?_
        exact ⟨rfl, rfl, by rw [hn, hsv]; rfl⟩
      · exact absurd c_30 (by rw [up_n hk15]; exact lt_no rfl hn)
    | succ jj ih_24 =>
      intro n hn x7 e7 mm em
      have hn1 : n < k_cc (μ k) := by omega
      subst e7 em
      have hn8 : n < 8 := Nat.lt_of_lt_of_le hn1 hc
      refine ca_iload h dX9_countNear_24 rfl ?_
      refine ca_aload_nr h dX9_countNear_26 rfl ?_
      refine gi_X9_31 h (hs.1 _ _ _ (by show _ ∧ _; exact ⟨by first | assumption | rfl | omega, by first | assumption | rfl | omega⟩)) dX9_countNear_27 ?_
      refine ca_icmp_ge (tgt := 110) h dX9_countNear_30 (by decide) (fun c_30 => ?_) (fun c_30 => ?_)
      · exact absurd (by rw [up_n hk15]; exact lt_yes rfl hn1) c_30
      ·
        refine ca_aload_nr h dX9_countNear_33 rfl ?_
        refine ca_iload h dX9_countNear_34 rfl ?_
        refine ca_vr h hG ml_X9_48 (c_X3_cellJ hs hk hn8) (ci := 3) rfl rfl rfl (hs.1 _ _ _ (by show _ ∧ _; exact ⟨by first | assumption | rfl | omega, by first | assumption | rfl | omega⟩)) rfl rfl rfl rfl ⟨Nat.le_refl _, Nat.le_refl _⟩ rfl dX9_countNear_36 ?_
        refine ca_iload_n h dX9_countNear_39 rfl ?_
        refine ca_iload_n h dX9_countNear_40 rfl ?_
        refine ca_vi h hG ml_X9_52 (c_X0_levelAt hs hk (by omega)) (ci := 0) rfl rfl rfl (hs.1 _ _ _ (by show _ ∧ _; exact ⟨by first | assumption | rfl | omega, by first | assumption | rfl | omega⟩)) rfl rfl rfl rfl ⟨Nat.le_refl _, Nat.le_refl _⟩ rfl dX9_countNear_41 ?_
        refine ca_istore h dX9_countNear_44 rfl ?_
        refine ca_iload h dX9_countNear_46 rfl ?_
        refine ca_bipush h dX9_countNear_48 bk_8 ?_
        refine ca_imul h dX9_countNear_50 ?_
        refine ca_iload h dX9_countNear_51 rfl ?_
        refine ca_iadd h dX9_countNear_53 ?_
        refine ca_istore h dX9_countNear_54 rfl ?_
        refine ca_iload h dX9_countNear_56 rfl ?_
        refine ca_iload h dX9_countNear_58 rfl ?_
        refine ca_icmp_eq (tgt := 104) h dX9_countNear_60 (by decide) (fun c_60 => ?_) (fun c_60 => ?_)
        ·
          refine ca_iinc h dX9_countNear_104 rfl ik_1 rfl ?_
          refine ca_goto (tgt := 24) h dX9_countNear_107 (by decide) ?_
          refine ca_pick [3, 4, 5, 6, 7, 8, 9, 0] rfl ?_
          have e9 : kf (k_nr1 (μ k) s x y m) (n + 1) (μ 15) = _ := if_neg (fun z => z.1 c_60)
          exact ih_24 (n + 1) (by omega) _ (nI_1 n) _ (by rw [e9] <;> simp only [ch_st_nw, up_s, up_up])
        ·
          refine ca_iload h dX9_countNear_63 rfl ?_
          refine ca_if_le (tgt := 104) h dX9_countNear_65 (by decide) (fun c_65 => ?_) (fun c_65 => ?_)
          ·
            refine ca_iinc h dX9_countNear_104 rfl ik_1 rfl ?_
            refine ca_goto (tgt := 24) h dX9_countNear_107 (by decide) ?_
            refine ca_pick [3, 4, 5, 6, 7, 8, 9, 0] rfl ?_
            have e9 : kf (k_nr1 (μ k) s x y m) (n + 1) (μ 15) = _ := if_neg (fun z => by have c9 := c_65; rw [up_n hk15] at c9; exact c9 z.2.1)
            exact ih_24 (n + 1) (by omega) _ (nI_1 n) _ (by rw [e9] <;> simp only [ch_st_nw, up_s, up_up])
          ·
            refine ca_iload h dX9_countNear_68 rfl ?_
            refine ca_iload h dX9_countNear_70 rfl ?_
            refine ca_isub h dX9_countNear_72 ?_
            refine ca_iload h dX9_countNear_73 rfl ?_
            refine ca_icmp_gt (tgt := 104) h dX9_countNear_75 (by decide) (fun c_75 => ?_) (fun c_75 => ?_)
            ·
              refine ca_iinc h dX9_countNear_104 rfl ik_1 rfl ?_
              refine ca_goto (tgt := 24) h dX9_countNear_107 (by decide) ?_
              refine ca_pick [3, 4, 5, 6, 7, 8, 9, 0] rfl ?_
              have e9 : kf (k_nr1 (μ k) s x y m) (n + 1) (μ 15) = _ := if_neg (fun z => by have c9 := c_75; simp only [up_n hk15] at c9; exact z.2.2.1 c9)
              exact ih_24 (n + 1) (by omega) _ (nI_1 n) _ (by rw [e9] <;> simp only [ch_st_nw, up_s, up_up])
            ·
              refine ca_iload h dX9_countNear_78 rfl ?_
              refine ca_if_lt (tgt := 104) h dX9_countNear_80 (by decide) (fun c_80 => ?_) (fun c_80 => ?_)
              ·
                refine ca_iinc h dX9_countNear_104 rfl ik_1 rfl ?_
                refine ca_goto (tgt := 24) h dX9_countNear_107 (by decide) ?_
                refine ca_pick [3, 4, 5, 6, 7, 8, 9, 0] rfl ?_
                have e9 : kf (k_nr1 (μ k) s x y m) (n + 1) (μ 15) = _ := if_neg (fun z => z.2.2.2.1 c_80)
                exact ih_24 (n + 1) (by omega) _ (nI_1 n) _ (by rw [e9] <;> simp only [ch_st_nw, up_s, up_up])
              ·
                refine ca_iload h dX9_countNear_83 rfl ?_
                refine ca_aload_nr h dX9_countNear_85 rfl ?_
                refine gs_X9_9 h hs ⟨rfl, rfl⟩ dX9_countNear_86 ?_
                refine ca_alen h rfl (by decide) (hs.1 _ _ _ ⟨rfl, rfl⟩) al_64 dX9_countNear_89 ?_
                refine ca_icmp_ge (tgt := 104) h dX9_countNear_90 (by decide) (fun c_90 => ?_) (fun c_90 => ?_)
                ·
                  refine ca_iinc h dX9_countNear_104 rfl ik_1 rfl ?_
                  refine ca_goto (tgt := 24) h dX9_countNear_107 (by decide) ?_
                  refine ca_pick [3, 4, 5, 6, 7, 8, 9, 0] rfl ?_
                  have e9 : kf (k_nr1 (μ k) s x y m) (n + 1) (μ 15) = _ := if_neg (fun z => c_90 z.2.2.2.2)
                  exact ih_24 (n + 1) (by omega) _ (nI_1 n) _ (by rw [e9] <;> simp only [ch_st_nw, up_s, up_up])
                ·
                  refine ca_aload_nr h dX9_countNear_93 rfl ?_
                  refine gs_X9_9 h hs ⟨rfl, rfl⟩ dX9_countNear_94 ?_
                  refine ca_iload h dX9_countNear_97 rfl ?_
                  refine ca_dup2 h dX9_countNear_99 rfl rfl ?_
                  refine ca_iald h rfl (hs.1 _ _ _ ⟨rfl, rfl⟩) (vp_lt c_80 c_90 (n := 64) rfl (by decide)) dX9_countNear_100 ?_
                  refine ca_iconst h dX9_countNear_101 ik_1 ?_
                  refine ca_iadd h dX9_countNear_102 ?_
                  refine ca_iast h rfl (hs.1 _ _ _ ⟨rfl, rfl⟩) (vp_lt c_80 c_90 (n := 64) rfl (by decide)) dX9_countNear_103 ?_
                  refine ca_iinc h dX9_countNear_104 rfl ik_1 rfl ?_
                  refine ca_goto (tgt := 24) h dX9_countNear_107 (by decide) ?_
                  refine ca_pick [3, 4, 5, 6, 7, 8, 9, 0] rfl ?_
                  have e9 : kf (k_nr1 (μ k) s x y m) (n + 1) (μ 15) = _ := if_pos ⟨c_60, by have c9 := c_65; rw [up_n hk15] at c9; exact c9, by have c9 := c_75; simp only [up_n hk15] at c9; exact c9, c_80, c_90⟩
                  exact ih_24 (n + 1) (by omega) _ (nI_1 n) _ (by rw [e9] <;> simp only [ch_st_nw, up_s, up_up])
  refine ca_pick [3, 4, 5, 6, 7, 2, 1, 0] rfl ?_
  exact loop_24 _ 0 (Nat.zero_add _) _ rfl _ (by show μ = up μ 15 (μ 15); rw [up_id])
set_option maxHeartbeats 100000 in
theorem c_X9_findMissing {l : Launch} {E : ch_E} {S : ch_S} {μ : ch_M} {k : Nat} (hs : ch_Std E S) (hk : k < 15) (hc : k_cc (μ k) ≤ 8) {m : Int32} : ch_C E l yX9_findMissing cX9_findMissing 6 (some FieldType.int) 4 0 0 S μ [.ref (S.1 15 20 0), .ref (S.1 k 0 0), .int m] (ch_F (some (.int (k_fm (μ k) (μ 15) m))) S (up μ 15 (k_nrA (μ k) m 28 (na (μ 15) 21 0 (fun _ => 0))))) := by
  refine ch_enter rfl rfl ?_
  intro X hl0 h hG hR hnm
  have h : ch_H X E RX9 cX9_findMissing 6 := h
  have hk15 : k ≠ 15 := by omega
  obtain ⟨q0, hq0⟩ : ∃ z, z = na (μ 15) 21 0 (fun _ => 0) := ⟨_, rfl⟩
  obtain ⟨q1, hq1⟩ : ∃ z, z = k_nrA (μ k) m 28 q0 := ⟨_, rfl⟩
  show ch_W X E 6 S μ 0 0 0 [(0, .ref (S.1 15 20 0)), (1, .ref (S.1 k 0 0)), (2, .int m)] []
  refine ca_aload_nr h dX9_findMissing_0 rfl ?_
  refine gs_X9_9 h hs ⟨rfl, rfl⟩ dX9_findMissing_1 ?_
  refine ca_iconst h dX9_findMissing_4 ik_0 ?_
  refine ca_sv h hG ms_X9_21 (c_fillN 64 (hs.1 15 21 0 ⟨rfl, rfl⟩) rfl rfl) rfl rfl rfl rfl ⟨Nat.le_refl _, Nat.le_refl _⟩ rfl dX9_findMissing_5 ?_
  refine ca_mem (μ'' := up μ 15 q0) (by rw [hq0]; rfl) ?_
  refine ca_iconst h dX9_findMissing_8 ik_0 ?_
  refine ca_istore_n h dX9_findMissing_9 rfl ?_
  have loop_10 : ∀ (jj a : Nat), a + jj = 28 → ∀ (x3 : Int32) (e3 : x3 = nI (37 * a)) (mm : ch_M) (em : mm = up μ 15 (k_nrA (μ k) m a q0)), ch_W X E 6 S mm 0 0 10 [(0, .ref (S.1 15 20 0)), (1, .ref (S.1 k 0 0)), (2, .int m), (3, .int x3)] [] := by
    intro jj
    induction jj with
    | zero =>
      intro a hn x3 e3 mm em
      have hn : a = 28 := by omega
      subst e3 em
      refine ca_iload_n h dX9_findMissing_10 rfl ?_
      refine ca_sipush h dX9_findMissing_11 sk_999 ?_
      refine ca_icmp_gt (tgt := 49) h dX9_findMissing_14 (by decide) (fun c_14 => ?_) (fun c_14 => ?_)
      ·
        refine ca_mem (μ'' := up μ 15 q1) (by rw [hq1, hn]) ?_
        refine ca_iconst h dX9_findMissing_49 ik_0 ?_
        refine ca_istore_n h dX9_findMissing_50 rfl ?_
        have loop_51 : ∀ (jj a : Nat), a + jj = k_cc (μ k) → ∀ (x3 : Int32) (e3 : x3 = nI a) (hx : k_fmO (μ k) q1 (k_cc (μ k)) (k_cc (μ k)) = k_fmO (μ k) q1 (k_cc (μ k)) jj), ch_W X E 6 S (up μ 15 q1) 0 0 51 [(0, .ref (S.1 15 20 0)), (1, .ref (S.1 k 0 0)), (2, .int m), (3, .int x3)] [] := by
          intro jj
          induction jj with
          | zero =>
            intro a hn x3 e3 hx
            have hn : a = k_cc (μ k) := by omega
            subst e3
            refine ca_iload_n h dX9_findMissing_51 rfl ?_
            refine ca_aload_nr h dX9_findMissing_52 rfl ?_
            refine gi_X9_31 h (hs.1 _ _ _ (by show _ ∧ _; exact ⟨by first | assumption | rfl | omega, by first | assumption | rfl | omega⟩)) dX9_findMissing_53 ?_
            refine ca_icmp_ge (tgt := 129) h dX9_findMissing_56 (by decide) (fun c_56 => ?_) (fun c_56 => ?_)
            ·
              refine ca_iconst h dX9_findMissing_129 ik_m1 ?_
              refine ca_ireturn h hR rfl dX9_findMissing_130 ?_
              exact ⟨by unfold k_fm; rw [← hq0, ← hq1, hx]; rfl, rfl, by rw [hq1, hq0]⟩
            · exact absurd c_56 (by rw [up_n hk15]; exact lt_no rfl hn)
          | succ jj ih_51 =>
            intro a hn x3 e3 hx
            have hn1 : a < k_cc (μ k) := by omega
            subst e3
            have ha1 := hn1
            have hja : k_cc (μ k) - (jj + 1) = a := by omega
            refine ca_iload_n h dX9_findMissing_51 rfl ?_
            refine ca_aload_nr h dX9_findMissing_52 rfl ?_
            refine gi_X9_31 h (hs.1 _ _ _ (by show _ ∧ _; exact ⟨by first | assumption | rfl | omega, by first | assumption | rfl | omega⟩)) dX9_findMissing_53 ?_
            refine ca_icmp_ge (tgt := 129) h dX9_findMissing_56 (by decide) (fun c_56 => ?_) (fun c_56 => ?_)
            · exact absurd (by rw [up_n hk15]; exact lt_yes rfl hn1) c_56
            ·
              refine ca_iconst h dX9_findMissing_59 ik_0 ?_
              refine ca_istore h dX9_findMissing_60 rfl ?_
              have loop_62 : ∀ (jj b : Nat), b + jj = k_cc (μ k) → ∀ (x4 : Int32) (e4 : x4 = nI b) (hy : kq (k_fmp (μ k) q1 a) (k_cc (μ k)) (k_cc (μ k)) = kq (k_fmp (μ k) q1 a) (k_cc (μ k)) jj), ch_W X E 6 S (up μ 15 q1) 0 0 62 [(0, .ref (S.1 15 20 0)), (1, .ref (S.1 k 0 0)), (2, .int m), (3, .int (nI a)), (4, .int x4)] [] := by
                intro jj
                induction jj with
                | zero =>
                  intro b hn x4 e4 hy
                  have hn : b = k_cc (μ k) := by omega
                  subst e4
                  refine ca_iload h dX9_findMissing_62 rfl ?_
                  refine ca_aload_nr h dX9_findMissing_64 rfl ?_
                  refine gi_X9_31 h (hs.1 _ _ _ (by show _ ∧ _; exact ⟨by first | assumption | rfl | omega, by first | assumption | rfl | omega⟩)) dX9_findMissing_65 ?_
                  refine ca_icmp_ge (tgt := 123) h dX9_findMissing_68 (by decide) (fun c_68 => ?_) (fun c_68 => ?_)
                  ·
                    refine ca_iinc h dX9_findMissing_123 rfl ik_1 rfl ?_
                    refine ca_goto (tgt := 51) h dX9_findMissing_126 (by decide) ?_
                    refine ca_pick [1, 2, 3, 0] rfl ?_
                    exact ih_51 (a + 1) (by omega) _ (nI_1 a) (by rw [hx, k_fmO, hja, if_pos (by rw [hy]; rfl)])
                  · exact absurd c_68 (by rw [up_n hk15]; exact lt_no rfl hn)
                | succ jj ih_62 =>
                  intro b hn x4 e4 hy
                  have hn1 : b < k_cc (μ k) := by omega
                  subst e4
                  have ha8 : a < 8 := Nat.lt_of_lt_of_le ha1 hc
                  have hb8 : b < 8 := Nat.lt_of_lt_of_le hn1 hc
                  have epair : nI a * 8 + nI b = nI (8 * a + b) := by rw [show (8 : Int32) = nI 8 from rfl, pk_mul, nI_add]; congr 1; omega
                  refine ca_iload h dX9_findMissing_62 rfl ?_
                  refine ca_aload_nr h dX9_findMissing_64 rfl ?_
                  refine gi_X9_31 h (hs.1 _ _ _ (by show _ ∧ _; exact ⟨by first | assumption | rfl | omega, by first | assumption | rfl | omega⟩)) dX9_findMissing_65 ?_
                  refine ca_icmp_ge (tgt := 123) h dX9_findMissing_68 (by decide) (fun c_68 => ?_) (fun c_68 => ?_)
                  · exact absurd (by rw [up_n hk15]; exact lt_yes rfl hn1) c_68
                  ·
                    refine ca_iload_n h dX9_findMissing_71 rfl ?_
                    refine ca_bipush h dX9_findMissing_72 bk_8 ?_
                    refine ca_imul h dX9_findMissing_74 ?_
                    refine ca_iload h dX9_findMissing_75 rfl ?_
                    refine ca_iadd h dX9_findMissing_77 ?_
                    refine ca_istore h dX9_findMissing_78 rfl ?_
                    refine ca_iload h dX9_findMissing_80 rfl ?_
                    refine ca_aload_nr h dX9_findMissing_82 rfl ?_
                    refine gs_X9_9 h hs ⟨rfl, rfl⟩ dX9_findMissing_83 ?_
                    refine ca_alen h rfl (by decide) (hs.1 _ _ _ ⟨rfl, rfl⟩) al_64 dX9_findMissing_86 ?_
                    refine ca_icmp_ge (tgt := 117) h dX9_findMissing_87 (by decide) (fun c_87 => ?_) (fun c_87 => ?_)
                    · exact absurd (by rw [epair]; exact nI_lt (b := 64) (by omega) (by decide)) c_87
                    ·
                      refine ca_aload_nr h dX9_findMissing_90 rfl ?_
                      refine gs_X9_9 h hs ⟨rfl, rfl⟩ dX9_findMissing_91 ?_
                      refine ca_iload h dX9_findMissing_94 rfl ?_
                      refine ca_iald h rfl (hs.1 _ _ _ ⟨rfl, rfl⟩) (by rw [epair]; exact vp_in_nI (by omega) (by decide)) dX9_findMissing_96 ?_
                      refine ca_iconst h dX9_findMissing_97 ik_3 ?_
                      refine ca_icmp_lt (tgt := 117) h dX9_findMissing_98 (by decide) (fun c_98 => ?_) (fun c_98 => ?_)
                      ·
                        refine ca_iinc h dX9_findMissing_117 rfl ik_1 rfl ?_
                        refine ca_goto (tgt := 62) h dX9_findMissing_120 (by decide) ?_
                        refine ca_pick [2, 3, 4, 5, 0] rfl ?_
                        exact ih_62 (b + 1) (by omega) _ (nI_1 b) (by rw [hy, kq_no hn (by unfold k_fmp; simp only [decide_eq_true_eq]; exact fun z => z.1 (by have c9 := c_98; rw [up_s, epair, nI_clamp (show 8 * a + b < 2 ^ 31 by omega)] at c9; exact c9))])
                      ·
                        refine ca_aload_nr h dX9_findMissing_101 rfl ?_
                        refine ca_iload_n h dX9_findMissing_102 rfl ?_
                        refine ca_iload h dX9_findMissing_103 rfl ?_
                        refine ca_vr h hG ml_X9_35 (c_X3_relJ hs hk (by omega) (by omega)) (ci := 3) rfl rfl rfl (hs.1 _ _ _ (by show _ ∧ _; exact ⟨by first | assumption | rfl | omega, by first | assumption | rfl | omega⟩)) rfl rfl rfl rfl ⟨Nat.le_refl _, Nat.le_refl _⟩ rfl dX9_findMissing_105 ?_
                        refine gi_X9_39 h (hs.1 _ _ _ (vR hk (by omega))) dX9_findMissing_108 ?_
                        refine ca_if_ne (tgt := 117) h dX9_findMissing_111 (by decide) (fun c_111 => ?_) (fun c_111 => ?_)
                        ·
                          refine ca_iinc h dX9_findMissing_117 rfl ik_1 rfl ?_
                          refine ca_goto (tgt := 62) h dX9_findMissing_120 (by decide) ?_
                          refine ca_pick [2, 3, 4, 5, 0] rfl ?_
                          exact ih_62 (b + 1) (by omega) _ (nI_1 b) (by rw [hy, kq_no hn (by unfold k_fmp; simp only [decide_eq_true_eq]; exact fun z => c_111 (by rw [up_n hk15]; exact z.2))])
                        ·
                          refine ca_iload h dX9_findMissing_114 rfl ?_
                          refine ca_ireturn h hR rfl dX9_findMissing_116 ?_
                          have hky := kq_yes (p := k_fmp (μ k) q1 a) hn (by unfold k_fmp; simp only [decide_eq_true_eq]; exact ⟨by have c9 := c_98; rw [up_s, epair, nI_clamp (show 8 * a + b < 2 ^ 31 by omega)] at c9; exact c9, by have c9 := c_111; rw [up_n hk15] at c9; exact c9⟩)
                          exact ⟨by unfold k_fm; rw [← hq0, ← hq1, hx, k_fmO, hja, hy, hky, if_neg (fun z => by have := nI_pos (n := b) (by omega); rw [z] at this; exact this (by decide))], rfl, by rw [hq1, hq0]⟩
              refine ca_pick [1, 2, 3, 4, 0] rfl ?_
              exact loop_62 _ 0 (Nat.zero_add _) _ rfl rfl
        refine ca_pick [1, 2, 3, 0] rfl ?_
        exact loop_51 _ 0 (Nat.zero_add _) _ rfl rfl
      · exact absurd (by rw [hn]; decide) c_14
    | succ jj ih_10 =>
      intro a hn x3 e3 mm em
      have hn1 : a < 28 := by omega
      subst e3 em
      refine ca_iload_n h dX9_findMissing_10 rfl ?_
      refine ca_sipush h dX9_findMissing_11 sk_999 ?_
      refine ca_icmp_gt (tgt := 49) h dX9_findMissing_14 (by decide) (fun c_14 => ?_) (fun c_14 => ?_)
      · exact absurd c_14 (nI_nlt (a := 999) (by omega) (by decide))
      ·
        refine ca_iconst h dX9_findMissing_17 ik_0 ?_
        refine ca_istore h dX9_findMissing_18 rfl ?_
        have loop_20 : ∀ (jj b : Nat), b + jj = 28 → ∀ (x4 : Int32) (e4 : x4 = nI (37 * b)) (mm : ch_M) (em : mm = up μ 15 (k_nrB (μ k) m a b (k_nrA (μ k) m a q0))), ch_W X E 6 S mm 0 0 20 [(0, .ref (S.1 15 20 0)), (1, .ref (S.1 k 0 0)), (2, .int m), (3, .int (nI (37 * a))), (4, .int x4)] [] := by
          intro jj
          induction jj with
          | zero =>
            intro b hn x4 e4 mm em
            have hn : b = 28 := by omega
            subst e4 em
            refine ca_iload h dX9_findMissing_20 rfl ?_
            refine ca_sipush h dX9_findMissing_22 sk_999 ?_
            refine ca_icmp_gt (tgt := 43) h dX9_findMissing_25 (by decide) (fun c_25 => ?_) (fun c_25 => ?_)
            ·
              refine ca_iinc h dX9_findMissing_43 rfl (v := 37) (by decide) rfl ?_
              refine ca_goto (tgt := 10) h dX9_findMissing_46 (by decide) ?_
              refine ca_pick [1, 2, 3, 0] rfl ?_
              exact ih_10 (a + 1) (by omega) _ (nI37 a) _ (by rw [hn, k_nrA_s])
            · exact absurd (by rw [hn]; decide) c_25
          | succ jj ih_20 =>
            intro b hn x4 e4 mm em
            have hn1 : b < 28 := by omega
            subst e4 em
            refine ca_iload h dX9_findMissing_20 rfl ?_
            refine ca_sipush h dX9_findMissing_22 sk_999 ?_
            refine ca_icmp_gt (tgt := 43) h dX9_findMissing_25 (by decide) (fun c_25 => ?_) (fun c_25 => ?_)
            · exact absurd c_25 (nI_nlt (a := 999) (by omega) (by decide))
            ·
              refine ca_aload_nr h dX9_findMissing_28 rfl ?_
              refine ca_aload_nr h dX9_findMissing_29 rfl ?_
              refine ca_iload_n h dX9_findMissing_30 rfl ?_
              refine ca_iload h dX9_findMissing_31 rfl ?_
              refine ca_iload_n h dX9_findMissing_33 rfl ?_
              refine ca_vv h hG ml_X9_27 (c_X9_countNear hs hk (by rw [up_n hk15]; exact hc)) (ci := 9) rfl rfl rfl (hs.1 _ _ _ ⟨rfl, rfl⟩) rfl rfl rfl rfl ⟨Nat.le_refl _, Nat.le_refl _⟩ rfl dX9_findMissing_34 ?_
              refine ca_iinc h dX9_findMissing_37 rfl (v := 37) (by decide) rfl ?_
              refine ca_goto (tgt := 20) h dX9_findMissing_40 (by decide) ?_
              refine ca_pick [1, 2, 3, 4, 0] rfl ?_
              exact ih_20 (b + 1) (by omega) _ (nI37 b) _ (by simp only [up_s, up_n hk15, up_up, k_nrB_s])
        refine ca_pick [1, 2, 3, 4, 0] rfl ?_
        exact loop_20 _ 0 (Nat.zero_add _) _ rfl _ (by rw [k_nrB_z])
  refine ca_pick [1, 2, 3, 0] rfl ?_
  exact loop_10 _ 0 (Nat.zero_add _) _ rfl _ (by rw [k_nrA_z])
set_option maxHeartbeats 100000 in
theorem c_X1_forget {l : Launch} {E : ch_E} {S : ch_S} {μ : ch_M} (hs : ch_Std E S) : ch_C E l yX1_forget cX1_forget 1 none 1 0 0 S μ [.ref (S.1 15 14 0)] (ch_F none S (up μ 15 (nw (μ 15) 14 0 0 0))) := by
  refine ch_enter rfl rfl ?_
  intro X hl0 h hG hR hnm
  have h : ch_H X E RX1 cX1_forget 1 := h
  show ch_W X E 1 S μ 0 0 0 [(0, .ref (S.1 15 14 0))] []
  refine ca_aload_nr h dX1_forget_0 rfl ?_
  refine ca_iconst h dX1_forget_1 ik_0 ?_
  refine pi_X1_18 h (hs.1 _ _ _ ⟨rfl, rfl⟩) dX1_forget_2 ?_
  refine ca_vreturn h hR dX1_forget_5 ?_
  exact ⟨rfl, rfl, rfl⟩
set_option maxHeartbeats 100000 in
theorem c_X1_record {l : Launch} {E : ch_E} {S : ch_S} {μ : ch_M} {k j : Nat} (hs : ch_Std E S) (hk : k < 3) (hj : j < 12) (hnx : μ 15 14 0 1 = nI j) : ch_C E l yX1_record cX1_record 3 none 4 0 0 S μ [.ref (S.1 15 14 0), .ref (S.1 k 0 0)] (ch_F none S (up (up μ (3 + j) (k_cp (μ (3 + j)) (μ k))) 15 (k_rec (μ 15)))) := by
  refine ch_enter rfl rfl ?_
  intro X hl0 h hG hR hnm
  have h : ch_H X E RX1 cX1_record 3 := h
  have hj15 : 3 + j ≠ 15 := by omega
  show ch_W X E 3 S μ 0 0 0 [(0, .ref (S.1 15 14 0)), (1, .ref (S.1 k 0 0))] []
  refine ca_aload_nr h dX1_record_0 rfl ?_
  refine gi_X1_22 h (hs.1 _ _ _ ⟨rfl, rfl⟩) dX1_record_1 ?_
  refine ca_if_lt (tgt := 31) h dX1_record_4 (by decide) (fun c_4 => ?_) (fun c_4 => ?_)
  · exact absurd c_4 (by rw [hnx]; exact nI_pos (by omega))
  ·
    refine ca_aload_nr h dX1_record_7 rfl ?_
    refine gi_X1_22 h (hs.1 _ _ _ ⟨rfl, rfl⟩) dX1_record_8 ?_
    refine ca_aload_nr h dX1_record_11 rfl ?_
    refine gs_X1_11 h hs ⟨rfl, rfl⟩ dX1_record_12 ?_
    refine ca_alenq h rfl (by decide) (hs.1 _ _ _ ⟨rfl, rfl⟩) al_12 dX1_record_15 ?_
    refine ca_icmp_ge (tgt := 31) h dX1_record_16 (by decide) (fun c_16 => ?_) (fun c_16 => ?_)
    · exact absurd (by rw [hnx]; exact nI_lt (b := 12) hj (by decide)) c_16
    ·
      have hin : vp_in (μ 15 14 0 1) 12 := by rw [hnx]; exact vp_in_nI hj (by decide)
      have hrf : S.2.2 15 15 0 (Int32.toNatClampNeg (μ 15 14 0 1)) = some (S.1 (3 + j) 0 0) := by rw [hnx, nI_clamp (show j < 2 ^ 31 by omega)]; exact hs.2.1 15 15 0 j (3 + j, 0, 0) ⟨rfl, rfl⟩ (if_pos hj)
      refine ca_aload_nr h dX1_record_19 rfl ?_
      refine gs_X1_11 h hs ⟨rfl, rfl⟩ dX1_record_20 ?_
      refine ca_aload_nr h dX1_record_23 rfl ?_
      refine gi_X1_22 h (hs.1 _ _ _ ⟨rfl, rfl⟩) dX1_record_24 ?_
      refine ca_aald h rfl (by decide) rfl (hs.1 _ _ _ ⟨rfl, rfl⟩) hin hrf dX1_record_27 ?_
      refine ca_goto (tgt := 32) h dX1_record_28 (by decide) ?_
      refine ca_astore_n h dX1_record_32 rfl ?_
      refine ca_aload_nr h dX1_record_33 rfl ?_
      refine ca_ifnonnull (tgt := 38) h dX1_record_34 (by decide) ?_
      refine ca_aload_nr h dX1_record_38 rfl ?_
      refine ca_aload_nr h dX1_record_39 rfl ?_
      refine ca_vv h hG ml_X1_25 (c_X3_copyFrom hs (by omega) (by omega) (by omega)) (ci := 3) rfl rfl rfl (hs.1 _ _ _ ⟨by omega, rfl⟩) rfl rfl rfl rfl ⟨Nat.le_refl _, Nat.le_refl _⟩ rfl dX1_record_40 ?_
      refine ca_aload_nr h dX1_record_43 rfl ?_
      refine ca_aload_nr h dX1_record_44 rfl ?_
      refine gi_X1_22 h (hs.1 _ _ _ ⟨rfl, rfl⟩) dX1_record_45 ?_
      refine ca_iconst h dX1_record_48 ik_1 ?_
      refine ca_iadd h dX1_record_49 ?_
      refine ca_bipush h dX1_record_50 bk_12 ?_
      refine ca_icmp_ge (tgt := 64) h dX1_record_52 (by decide) (fun c_52 => ?_) (fun c_52 => ?_)
      ·
        refine ca_iconst h dX1_record_64 ik_0 ?_
        refine pi_X1_22 h (hs.1 _ _ _ ⟨rfl, rfl⟩) dX1_record_65 ?_
        refine ca_aload_nr h dX1_record_68 rfl ?_
        refine ca_aload_nr h dX1_record_69 rfl ?_
        refine gi_X1_18 h (hs.1 _ _ _ ⟨rfl, rfl⟩) dX1_record_70 ?_
        refine ca_iconst h dX1_record_73 ik_1 ?_
        refine ca_iadd h dX1_record_74 ?_
        refine ca_bipush h dX1_record_75 bk_12 ?_
        refine ca_mmin h hG rfl rfl rfl kw_840 kw_486 kw_16 kw_487 (Nat.le_of_ble_eq_true rfl) dX1_record_77 ?_
        refine pi_X1_18 h (hs.1 _ _ _ ⟨rfl, rfl⟩) dX1_record_80 ?_
        refine ca_vreturn h hR dX1_record_83 ?_
        have e1 : k_nx (μ 15 14 0 1) = _ := if_neg (by have c9 := c_52; rw [up_n (Ne.symm hj15)] at c9; exact c9)
        exact ⟨rfl, rfl, by unfold k_rec; rw [e1]; simp only [ch_st_nw, up_s, up_n (Ne.symm hj15), up_up]; simp only [nw_at]; rfl⟩
      ·
        refine ca_aload_nr h dX1_record_55 rfl ?_
        refine gi_X1_22 h (hs.1 _ _ _ ⟨rfl, rfl⟩) dX1_record_56 ?_
        refine ca_iconst h dX1_record_59 ik_1 ?_
        refine ca_iadd h dX1_record_60 ?_
        refine ca_goto (tgt := 65) h dX1_record_61 (by decide) ?_
        refine pi_X1_22 h (hs.1 _ _ _ ⟨rfl, rfl⟩) dX1_record_65 ?_
        refine ca_aload_nr h dX1_record_68 rfl ?_
        refine ca_aload_nr h dX1_record_69 rfl ?_
        refine gi_X1_18 h (hs.1 _ _ _ ⟨rfl, rfl⟩) dX1_record_70 ?_
        refine ca_iconst h dX1_record_73 ik_1 ?_
        refine ca_iadd h dX1_record_74 ?_
        refine ca_bipush h dX1_record_75 bk_12 ?_
        refine ca_mmin h hG rfl rfl rfl kw_840 kw_486 kw_16 kw_487 (Nat.le_of_ble_eq_true rfl) dX1_record_77 ?_
        refine pi_X1_18 h (hs.1 _ _ _ ⟨rfl, rfl⟩) dX1_record_80 ?_
        refine ca_vreturn h hR dX1_record_83 ?_
        have e1 : k_nx (μ 15 14 0 1) = _ := if_pos (by have c9 := c_52; rw [up_n (Ne.symm hj15)] at c9; exact c9)
        exact ⟨rfl, rfl, by unfold k_rec; rw [e1]; simp only [ch_st_nw, up_s, up_n (Ne.symm hj15), up_up]; simp only [nw_at]; rfl⟩
set_option maxHeartbeats 100000 in
theorem c_X1_takeBack {l : Launch} {E : ch_E} {S : ch_S} {μ : ch_M} {k j : Nat} (hs : ch_Std E S) (hk : k < 3) (hj : j < 12) (hnx : μ 15 14 0 1 = nI j) : ch_C E l yX1_takeBack cX1_takeBack 4 none 4 0 0 S μ [.ref (S.1 15 14 0), .ref (S.1 k 0 0)] (ch_F none S (up (up μ k (k_cp (μ k) (μ (3 + k_lx j)))) 15 (k_tkb (μ 15) j))) := by
  refine ch_enter rfl rfl ?_
  intro X hl0 h hG hR hnm
  have h : ch_H X E RX1 cX1_takeBack 4 := h
  have hk15 : k ≠ 15 := by omega
  show ch_W X E 4 S μ 0 0 0 [(0, .ref (S.1 15 14 0)), (1, .ref (S.1 k 0 0))] []
  refine ca_aload_nr h dX1_takeBack_0 rfl ?_
  refine gi_X1_22 h (hs.1 _ _ _ ⟨rfl, rfl⟩) dX1_takeBack_1 ?_
  refine ca_if_le (tgt := 16) h dX1_takeBack_4 (by decide) (fun c_4 => ?_) (fun c_4 => ?_)
  ·
    refine ca_bipush h dX1_takeBack_16 bk_11 ?_
    have hlx : k_lx j < 12 := by unfold k_lx; split <;> omega
    have hrf : S.2.2 15 15 0 (Int32.toNatClampNeg (nI (k_lx j))) = some (S.1 (3 + k_lx j) 0 0) := by rw [nI_clamp (show k_lx j < 2 ^ 31 by omega)]; exact hs.2.1 15 15 0 (k_lx j) (3 + k_lx j, 0, 0) ⟨rfl, rfl⟩ (if_pos hlx)
    refine ca_top (show _ = nI (k_lx j) from ?_) ?_
    · have c9 := c_4
      rw [hnx] at c9
      have hj0 : j = 0 := by rcases Nat.eq_zero_or_pos j with z | z; exact z; exact absurd (nI_lt z (by omega)) c9
      subst hj0; rfl
    refine ca_istore_n h dX1_takeBack_18 rfl ?_
    refine ca_iload_n h dX1_takeBack_19 rfl ?_
    refine ca_aload_nr h dX1_takeBack_20 rfl ?_
    refine gs_X1_11 h hs ⟨rfl, rfl⟩ dX1_takeBack_21 ?_
    refine ca_alenq h rfl (by decide) (hs.1 _ _ _ ⟨rfl, rfl⟩) al_12 dX1_takeBack_24 ?_
    refine ca_icmp_ge (tgt := 37) h dX1_takeBack_25 (by decide) (fun c_25 => ?_) (fun c_25 => ?_)
    · exact absurd (nI_lt (b := 12) hlx (by decide)) c_25
    ·
      refine ca_aload_nr h dX1_takeBack_28 rfl ?_
      refine gs_X1_11 h hs ⟨rfl, rfl⟩ dX1_takeBack_29 ?_
      refine ca_iload_n h dX1_takeBack_32 rfl ?_
      refine ca_aald h rfl (by decide) rfl (hs.1 _ _ _ ⟨rfl, rfl⟩) (vp_in_nI hlx (by decide)) hrf dX1_takeBack_33 ?_
      refine ca_goto (tgt := 38) h dX1_takeBack_34 (by decide) ?_
      refine ca_astore_n h dX1_takeBack_38 rfl ?_
      refine ca_aload_nr h dX1_takeBack_39 rfl ?_
      refine ca_ifnonnull (tgt := 44) h dX1_takeBack_40 (by decide) ?_
      refine ca_aload_nr h dX1_takeBack_44 rfl ?_
      refine ca_aload_nr h dX1_takeBack_45 rfl ?_
      refine ca_vv h hG ml_X1_25 (c_X3_copyFrom hs (by omega) (by omega) (by omega)) (ci := 3) rfl rfl rfl (hs.1 _ _ _ ⟨by omega, rfl⟩) rfl rfl rfl rfl ⟨Nat.le_refl _, Nat.le_refl _⟩ rfl dX1_takeBack_46 ?_
      refine ca_aload_nr h dX1_takeBack_49 rfl ?_
      refine ca_iload_n h dX1_takeBack_50 rfl ?_
      refine pi_X1_22 h (hs.1 _ _ _ ⟨rfl, rfl⟩) dX1_takeBack_51 ?_
      refine ca_aload_nr h dX1_takeBack_54 rfl ?_
      refine ca_dup h dX1_takeBack_55 rfl ?_
      refine gi_X1_18 h (hs.1 _ _ _ ⟨rfl, rfl⟩) dX1_takeBack_56 ?_
      refine ca_iconst h dX1_takeBack_59 ik_1 ?_
      refine ca_isub h dX1_takeBack_60 ?_
      refine pi_X1_18 h (hs.1 _ _ _ ⟨rfl, rfl⟩) dX1_takeBack_61 ?_
      refine ca_vreturn h hR dX1_takeBack_64 ?_
      exact ⟨rfl, rfl, by unfold k_tkb; simp only [ch_st_nw, up_s, up_n (Ne.symm hk15), up_up]; simp only [nw_at]; rfl⟩
  ·
    refine ca_aload_nr h dX1_takeBack_7 rfl ?_
    refine gi_X1_22 h (hs.1 _ _ _ ⟨rfl, rfl⟩) dX1_takeBack_8 ?_
    refine ca_iconst h dX1_takeBack_11 ik_1 ?_
    refine ca_isub h dX1_takeBack_12 ?_
    refine ca_goto (tgt := 18) h dX1_takeBack_13 (by decide) ?_
    have hlx : k_lx j < 12 := by unfold k_lx; split <;> omega
    have hrf : S.2.2 15 15 0 (Int32.toNatClampNeg (nI (k_lx j))) = some (S.1 (3 + k_lx j) 0 0) := by rw [nI_clamp (show k_lx j < 2 ^ 31 by omega)]; exact hs.2.1 15 15 0 (k_lx j) (3 + k_lx j, 0, 0) ⟨rfl, rfl⟩ (if_pos hlx)
    refine ca_top (show _ = nI (k_lx j) from ?_) ?_
    · have c9 := c_4
      rw [hnx] at c9
      have hj0 : 0 < j := by rcases Nat.eq_zero_or_pos j with z | z; subst z; exact absurd c9 (by decide); exact z
      rw [hnx, show (1 : Int32) = nI 1 from rfl, pk_sub hj0]; unfold k_lx; rw [if_pos hj0]
    refine ca_istore_n h dX1_takeBack_18 rfl ?_
    refine ca_iload_n h dX1_takeBack_19 rfl ?_
    refine ca_aload_nr h dX1_takeBack_20 rfl ?_
    refine gs_X1_11 h hs ⟨rfl, rfl⟩ dX1_takeBack_21 ?_
    refine ca_alenq h rfl (by decide) (hs.1 _ _ _ ⟨rfl, rfl⟩) al_12 dX1_takeBack_24 ?_
    refine ca_icmp_ge (tgt := 37) h dX1_takeBack_25 (by decide) (fun c_25 => ?_) (fun c_25 => ?_)
    · exact absurd (nI_lt (b := 12) hlx (by decide)) c_25
    ·
      refine ca_aload_nr h dX1_takeBack_28 rfl ?_
      refine gs_X1_11 h hs ⟨rfl, rfl⟩ dX1_takeBack_29 ?_
      refine ca_iload_n h dX1_takeBack_32 rfl ?_
      refine ca_aald h rfl (by decide) rfl (hs.1 _ _ _ ⟨rfl, rfl⟩) (vp_in_nI hlx (by decide)) hrf dX1_takeBack_33 ?_
      refine ca_goto (tgt := 38) h dX1_takeBack_34 (by decide) ?_
      refine ca_astore_n h dX1_takeBack_38 rfl ?_
      refine ca_aload_nr h dX1_takeBack_39 rfl ?_
      refine ca_ifnonnull (tgt := 44) h dX1_takeBack_40 (by decide) ?_
      refine ca_aload_nr h dX1_takeBack_44 rfl ?_
      refine ca_aload_nr h dX1_takeBack_45 rfl ?_
      refine ca_vv h hG ml_X1_25 (c_X3_copyFrom hs (by omega) (by omega) (by omega)) (ci := 3) rfl rfl rfl (hs.1 _ _ _ ⟨by omega, rfl⟩) rfl rfl rfl rfl ⟨Nat.le_refl _, Nat.le_refl _⟩ rfl dX1_takeBack_46 ?_
      refine ca_aload_nr h dX1_takeBack_49 rfl ?_
      refine ca_iload_n h dX1_takeBack_50 rfl ?_
      refine pi_X1_22 h (hs.1 _ _ _ ⟨rfl, rfl⟩) dX1_takeBack_51 ?_
      refine ca_aload_nr h dX1_takeBack_54 rfl ?_
      refine ca_dup h dX1_takeBack_55 rfl ?_
      refine gi_X1_18 h (hs.1 _ _ _ ⟨rfl, rfl⟩) dX1_takeBack_56 ?_
      refine ca_iconst h dX1_takeBack_59 ik_1 ?_
      refine ca_isub h dX1_takeBack_60 ?_
      refine pi_X1_18 h (hs.1 _ _ _ ⟨rfl, rfl⟩) dX1_takeBack_61 ?_
      refine ca_vreturn h hR dX1_takeBack_64 ?_
      exact ⟨rfl, rfl, by unfold k_tkb; simp only [ch_st_nw, up_s, up_n (Ne.symm hk15), up_up]; simp only [nw_at]; rfl⟩
