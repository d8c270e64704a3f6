/-! THE RANKING: its memory q (kinds 17, 18, 19 of place 15) -/
theorem nw_k {n : ch_N} {kd i j : Nat} {v : Int32} {kd' : Nat} (h : kd' ≠ kd) : nw n kd i j v kd' = n kd' := by unfold nw; exact up_n h
theorem na_k {n : ch_N} {kd i : Nat} {f : Nat → Int32} {kd' : Nat} (h : kd' ≠ kd) : na n kd i f kd' = n kd' := by unfold na; exact up_n h
theorem nw_nw (n : ch_N) (kd i j : Nat) (v w : Int32) : nw (nw n kd i j v) kd i j w = nw n kd i j w := by
  unfold nw; simp [up_s, up_up]
/-- where the scan from the end stops -/
def k_sp (M : Nat → Int32) (m : Int32) : Nat → Nat
  | 0 => 0
  | a + 1 => if M a < m then k_sp M m a else a + 1
def k_sh (C : Nat → Int32) (a cnt : Nat) : Nat → Int32 := fun j => if a < j ∧ j ≤ cnt then C (j - 1) else C j
def k_ins (q : ch_N) (c m : Int32) : ch_N :=
  if q 17 0 0 < 8 then
    nw (nw (nw (na (na q 18 0 (k_sh (q 18 0) (k_sp (q 19 0) m (Int32.toNatClampNeg (q 17 0 0))) (Int32.toNatClampNeg (q 17 0 0)))) 19 0 (k_sh (q 19 0) (k_sp (q 19 0) m (Int32.toNatClampNeg (q 17 0 0))) (Int32.toNatClampNeg (q 17 0 0)))) 18 0 (k_sp (q 19 0) m (Int32.toNatClampNeg (q 17 0 0))) c) 19 0 (k_sp (q 19 0) m (Int32.toNatClampNeg (q 17 0 0))) m) 17 0 0 (q 17 0 0 + 1)
  else q
theorem k_sp_le (M : Nat → Int32) (m : Int32) : ∀ a, k_sp M m a ≤ a
  | 0 => Nat.le_refl 0
  | a + 1 => by
    unfold k_sp
    split
    · exact Nat.le_trans (k_sp_le M m a) (Nat.le_succ a)
    · exact Nat.le_refl _
theorem k_sh_0 (C : Nat → Int32) (cnt : Nat) : k_sh C cnt cnt = C := by
  funext j; unfold k_sh; rw [if_neg (by omega)]
theorem k_sh_s (C : Nat → Int32) {a cnt : Nat} (h : a < cnt) : up (k_sh C (a + 1) cnt) (a + 1) (k_sh C (a + 1) cnt a) = k_sh C a cnt := by
  funext j
  unfold up k_sh
  by_cases h1 : j = a + 1
  · subst h1
    rw [if_pos rfl, if_neg (by omega), if_pos (by omega)]
    congr 1
  · rw [if_neg h1]
    by_cases h2 : a + 1 < j ∧ j ≤ cnt
    · rw [if_pos h2, if_pos (by omega)]
    · rw [if_neg h2, if_neg (by omega)]
theorem na_nw {n : ch_N} {kd i j : Nat} {f : Nat → Int32} {v : Int32} : nw (na n kd i f) kd i j v = na n kd i (up f j v) := by
  unfold nw na; simp [up_s, up_up]
theorem na_na_c {n : ch_N} {kd kd2 i i2 : Nat} {f g : Nat → Int32} (h : kd ≠ kd2) : na (na n kd i f) kd2 i2 g = na (na n kd2 i2 g) kd i f := by
  funext a b c
  simp only [na_at]
  by_cases h1 : a = kd ∧ b = i
  · have h2 : ¬ (a = kd2 ∧ b = i2) := fun z => h (h1.1.symm.trans z.1)
    simp only [h1, h2, if_false, and_self, if_true]
    rw [if_neg (fun z => h z.1)]
  · simp only [h1, if_false]
theorem na_id (n : ch_N) (kd i : Nat) : na n kd i (n kd i) = n := by
  unfold na; simp [up_id]
theorem na_na (n : ch_N) (kd i : Nat) (f g : Nat → Int32) : na (na n kd i f) kd i g = na n kd i g := by
  unfold na; simp [up_s, up_up]
/-- a network's rows are in order -/
def k_wf (n : ch_N) : Prop := k_mc n ≤ 12 ∧ k_cc n ≤ 8 ∧ ¬ n 0 0 4 < 0 ∧ 1 ≤ Int32.toNatClampNeg (n 0 0 4) ∧ Int32.toNatClampNeg (n 0 0 4) ≤ 8 ∧ ∀ i c, i < 13 → c < 8 → ¬ n 5 i c < 0 ∧ Int32.toNatClampNeg (n 5 i c) ≤ 8 ∧ (i < k_mc n → Int32.toNatClampNeg (n 5 i c) ≤ Int32.toNatClampNeg (n 0 0 4))
theorem k_wf.cnt {n : ch_N} (h : k_wf n) {i : Nat} (hi : i < 13) : ∀ c, c < 8 → Int32.toNatClampNeg (n 5 i c) ≤ 8 := fun c hc => (h.2.2.2.2.2 i c hi hc).2.1
def k_mg (n : ch_N) (em : Int32) (i : Nat) (c : Int32) : Int32 :=
  if n 2 (k_rx (n 3 i 5) c) 0 = 0 then 0 else if k_rep n i c < n 0 0 5 then 0 else if em = 0 ∧ k_isb n i c (n 0 0 3) = true then 0
  else if k_avg n i c < n 1 (k_ix 8 8 c) 6 then 0 else if em = 0 then k_avg n i c - k_avg n i (n 3 i 5) - n 2 (k_rx (n 3 i 5) c) 1 else k_avg n i c - k_avg n i (n 3 i 5)
def k_em (n : ch_N) (i : Nat) : Int32 := bI (decide (k_avg n i (n 3 i 5) < n 1 (k_ix 8 8 (n 3 i 5)) 7))
def k_rkL (n : ch_N) (em : Int32) (i : Nat) : Nat → ch_N → ch_N := kf (fun c q => if 0 < k_mg n em i (nI c) then k_ins q (nI c) (k_mg n em i (nI c)) else q)
def k_rank (n q : ch_N) (i : Nat) : ch_N :=
  if k_avg n i (n 3 i 5) = -1 then nw (nw q 17 0 0 0) 17 0 1 0
  else k_rkL n (k_em n i) i (k_cc n) (nw (nw q 17 0 0 0) 17 0 1 (k_em n i))
def k_car (q : ch_N) (x : Int32) : Int32 := if x < 0 then -1 else if x < q 17 0 0 then (if x < 8 then q 18 0 (Int32.toNatClampNeg x) else -1) else -1
theorem k_ins_em (q : ch_N) (c m : Int32) : k_ins q c m 17 0 1 = q 17 0 1 := by
  unfold k_ins
  split
  · simp [nw_at, na_at]
  · rfl
theorem k_ins_cnt (q : ch_N) (c m : Int32) (h : ¬ q 17 0 0 < 0) : ¬ k_ins q c m 17 0 0 < 0 := by
  unfold k_ins
  split
  · rename_i h8
    obtain ⟨j, hj, e⟩ := vp_in_of (vp_lt h h8 (n := 8) rfl (by decide)) (by decide)
    simp only [nw_at, and_true, if_true, true_and]
    rw [e, nI_1]
    exact nI_pos (by omega)
  · exact h
theorem k_rkL_em (n : ch_N) (em : Int32) (i N : Nat) (q : ch_N) : k_rkL n em i N q 17 0 1 = q 17 0 1 := by
  unfold k_rkL
  refine kf_inv (P := fun z => z 17 0 1 = q 17 0 1) N q rfl ?_
  intro c y _ h
  split
  · exact (k_ins_em _ _ _).trans h
  · exact h
theorem k_rkL_cnt (n : ch_N) (em : Int32) (i N : Nat) (q : ch_N) (h : ¬ q 17 0 0 < 0) : ¬ k_rkL n em i N q 17 0 0 < 0 := by
  unfold k_rkL
  refine kf_inv (P := fun z => ¬ z 17 0 0 < 0) N q h ?_
  intro c y _ hy
  split
  · exact k_ins_cnt y _ _ hy
  · exact hy
def k_2a (q : ch_N) (f g : Nat → Int32) : ch_N := na (na q 18 0 f) 19 0 g
theorem k_2a_18 (q : ch_N) (f g : Nat → Int32) (j : Nat) (v : Int32) : nw (k_2a q f g) 18 0 j v = k_2a q (up f j v) g := by
  funext a b c
  unfold k_2a
  simp only [nw_at, na_at, up]
  by_cases h1 : a = 19 ∧ b = 0
  · obtain ⟨rfl, rfl⟩ := h1; simp
  · simp only [h1, if_false]
    by_cases h2 : a = 18 ∧ b = 0
    · obtain ⟨rfl, rfl⟩ := h2; simp
    · rw [if_neg (fun z => h2 ⟨z.1, z.2.1⟩), if_neg h2, if_neg h2]
theorem k_2a_19 (q : ch_N) (f g : Nat → Int32) (j : Nat) (v : Int32) : nw (k_2a q f g) 19 0 j v = k_2a q f (up g j v) := by
  funext a b c
  unfold k_2a
  simp only [nw_at, na_at, up]
  by_cases h1 : a = 19 ∧ b = 0
  · obtain ⟨rfl, rfl⟩ := h1; simp
  · rw [if_neg (fun z => h1 ⟨z.1, z.2.1⟩), if_neg h1, if_neg h1]
theorem k_2a_r18 (q : ch_N) (f g : Nat → Int32) : k_2a q f g 18 0 = f := by
  funext c; unfold k_2a; simp [na_at]
theorem k_2a_r19 (q : ch_N) (f g : Nat → Int32) : k_2a q f g 19 0 = g := by
  funext c; unfold k_2a; simp [na_at]
theorem k_2a_r17 (q : ch_N) (f g : Nat → Int32) : k_2a q f g 17 = q 17 := by
  funext b c; unfold k_2a; simp [na_at]
theorem k_2a_0 (q : ch_N) (cnt : Nat) : k_2a q (k_sh (q 18 0) cnt cnt) (k_sh (q 19 0) cnt cnt) = q := by
  rw [k_sh_0, k_sh_0]; unfold k_2a
  have e : na q 18 0 (q 18 0) = q := na_id q 18 0
  rw [e, na_id]
theorem k_2a_s (q : ch_N) {a cnt : Nat} (h : a < cnt) : nw (nw (k_2a q (k_sh (q 18 0) (a + 1) cnt) (k_sh (q 19 0) (a + 1) cnt)) 18 0 (a + 1) (k_sh (q 18 0) (a + 1) cnt a)) 19 0 (a + 1) (k_sh (q 19 0) (a + 1) cnt a) = k_2a q (k_sh (q 18 0) a cnt) (k_sh (q 19 0) a cnt) := by
  rw [k_2a_18, k_2a_19, k_sh_s _ h, k_sh_s _ h]
theorem v15 (kd : Nat) (h : ch_V 15 kd 0) : ch_V 15 kd 0 := h
set_option maxHeartbeats 100000 in
theorem c_X6_cellAtRank {l : Launch} {E : ch_E} {S : ch_S} {μ : ch_M} (hs : ch_Std E S) {x : Int32} : ch_C E l yX6_cellAtRank cX6_cellAtRank 2 (some FieldType.int) 1 0 0 S μ [.ref (S.1 15 17 0), .int x] (ch_F (some (.int (k_car (μ 15) x))) S (μ)) := by
  refine ch_enter rfl rfl ?_
  intro X hl0 h hG hR hnm
  have h : ch_H X E RX6 cX6_cellAtRank 2 := h
  show ch_W X E 2 S μ 0 0 0 [(0, .ref (S.1 15 17 0)), (1, .int x)] []
  refine ca_iload_n h dX6_cellAtRank_0 rfl ?_
  refine ca_if_lt (tgt := 30) h dX6_cellAtRank_1 (by decide) (fun c_1 => ?_) (fun c_1 => ?_)
  ·
    refine ca_iconst h dX6_cellAtRank_30 ik_m1 ?_
    refine ca_ireturn h hR rfl dX6_cellAtRank_31 ?_
    exact ⟨by simp [k_car, c_1], rfl, rfl⟩
  ·
    refine ca_iload_n h dX6_cellAtRank_4 rfl ?_
    refine ca_aload_nr h dX6_cellAtRank_5 rfl ?_
    refine gi_X6_18 h (hs.1 _ _ _ ⟨rfl, rfl⟩) dX6_cellAtRank_6 ?_
    refine ca_icmp_ge (tgt := 30) h dX6_cellAtRank_9 (by decide) (fun c_9 => ?_) (fun c_9 => ?_)
    ·
      refine ca_iconst h dX6_cellAtRank_30 ik_m1 ?_
      refine ca_ireturn h hR rfl dX6_cellAtRank_31 ?_
      exact ⟨by simp [k_car, c_1, c_9], rfl, rfl⟩
    ·
      refine ca_iload_n h dX6_cellAtRank_12 rfl ?_
      refine ca_aload_nr h dX6_cellAtRank_13 rfl ?_
      refine gs_X6_9 h hs ⟨rfl, rfl⟩ dX6_cellAtRank_14 ?_
      refine ca_alen h rfl (by decide) (hs.1 _ _ _ ⟨rfl, rfl⟩) al_8 dX6_cellAtRank_17 ?_
      refine ca_icmp_ge (tgt := 30) h dX6_cellAtRank_18 (by decide) (fun c_18 => ?_) (fun c_18 => ?_)
      ·
        refine ca_iconst h dX6_cellAtRank_30 ik_m1 ?_
        refine ca_ireturn h hR rfl dX6_cellAtRank_31 ?_
        exact ⟨by simp [k_car, c_1, c_9, c_18], rfl, rfl⟩
      ·
        refine ca_aload_nr h dX6_cellAtRank_21 rfl ?_
        refine gs_X6_9 h hs ⟨rfl, rfl⟩ dX6_cellAtRank_22 ?_
        refine ca_iload_n h dX6_cellAtRank_25 rfl ?_
        refine ca_iald h rfl (hs.1 _ _ _ ⟨rfl, rfl⟩) (vp_lt c_1 c_18 rfl (by decide)) dX6_cellAtRank_26 ?_
        refine ca_goto (tgt := 31) h dX6_cellAtRank_27 (by decide) ?_
        refine ca_ireturn h hR rfl dX6_cellAtRank_31 ?_
        exact ⟨by simp [k_car, c_1, c_9, c_18], rfl, rfl⟩
set_option maxHeartbeats 100000 in
theorem c_X6_insert {l : Launch} {E : ch_E} {S : ch_S} {μ : ch_M} (hs : ch_Std E S) (h0 : ¬ μ 15 17 0 0 < 0) {c m : Int32} : ch_C E l yX6_insert cX6_insert 4 none 1 0 0 S μ [.ref (S.1 15 17 0), .int c, .int m] (ch_F none S (up μ 15 (k_ins (μ 15) c m))) := by
  refine ch_enter rfl rfl ?_
  intro X hl0 h hG hR hnm
  have h : ch_H X E RX6 cX6_insert 4 := h
  show ch_W X E 4 S μ 0 0 0 [(0, .ref (S.1 15 17 0)), (1, .int c), (2, .int m)] []
  refine ca_aload_nr h dX6_insert_0 rfl ?_
  refine gi_X6_18 h (hs.1 _ _ _ ⟨rfl, rfl⟩) dX6_insert_1 ?_
  refine ca_aload_nr h dX6_insert_4 rfl ?_
  refine gs_X6_9 h hs ⟨rfl, rfl⟩ dX6_insert_5 ?_
  refine ca_alen h rfl (by decide) (hs.1 _ _ _ ⟨rfl, rfl⟩) al_8 dX6_insert_8 ?_
  refine ca_icmp_ge (tgt := 24) h dX6_insert_9 (by decide) (fun c_9 => ?_) (fun c_9 => ?_)
  ·
    refine ca_vreturn h hR dX6_insert_24 ?_
    exact ⟨rfl, rfl, by unfold k_ins; rw [if_neg c_9, up_id]⟩
  ·
    refine ca_aload_nr h dX6_insert_12 rfl ?_
    refine gi_X6_18 h (hs.1 _ _ _ ⟨rfl, rfl⟩) dX6_insert_13 ?_
    refine ca_aload_nr h dX6_insert_16 rfl ?_
    refine gs_X6_15 h hs ⟨rfl, rfl⟩ dX6_insert_17 ?_
    refine ca_alen h rfl (by decide) (hs.1 _ _ _ ⟨rfl, rfl⟩) al_8 dX6_insert_20 ?_
    refine ca_icmp_lt (tgt := 25) h dX6_insert_21 (by decide) (fun c_21 => ?_) (fun c_21 => ?_)
    ·
      obtain ⟨cnt, hcnt, ecnt⟩ := vp_in_of (vp_lt h0 c_9 (n := 8) rfl (by decide)) (by decide)
      have ecn : Int32.toNatClampNeg (μ 15 17 0 0) = cnt := by rw [ecnt]; exact nI_clamp (by omega)
      obtain ⟨q0, hq0⟩ : ∃ z, z = μ 15 := ⟨_, rfl⟩
      refine ca_aload_nr h dX6_insert_25 rfl ?_
      refine gi_X6_18 h (hs.1 _ _ _ ⟨rfl, rfl⟩) dX6_insert_26 ?_
      refine ca_istore_n h dX6_insert_29 rfl ?_
      have loop_30 : ∀ (jj n : Nat), n + jj = cnt → ∀ (x3 : Int32) (e3 : x3 = nI (cnt - n)) (hx : k_sp (q0 19 0) m cnt = k_sp (q0 19 0) m (cnt - n)) (mm : ch_M) (em : mm = up μ 15 (k_2a q0 (k_sh (q0 18 0) (cnt - n) cnt) (k_sh (q0 19 0) (cnt - n) cnt))), ch_W X E 4 S mm 0 0 30 [(0, .ref (S.1 15 17 0)), (1, .int c), (2, .int m), (3, .int x3)] [] := by
        intro jj
        induction jj with
        | zero =>
          intro n hn x3 e3 hx mm em
          have hn : n = cnt := by omega
          subst e3 em
          rw [show cnt - n = 0 by omega] at hx ⊢
          refine ca_iload_n h dX6_insert_30 rfl ?_
          refine ca_if_le (tgt := 80) h dX6_insert_31 (by decide) (fun c_31 => ?_) (fun c_31 => ?_)
          ·
            have eP : k_sp (q0 19 0) m cnt = 0 := hx
            have hPn : (0 : Int32).toNatClampNeg = 0 := by decide
            refine ca_aload_nr h dX6_insert_80 rfl ?_
            refine gs_X6_9 h hs ⟨rfl, rfl⟩ dX6_insert_81 ?_
            refine ca_iload_n h dX6_insert_84 rfl ?_
            refine ca_iload_n h dX6_insert_85 rfl ?_
            refine ca_iast h rfl (hs.1 _ _ _ ⟨rfl, rfl⟩) (vp_in_nI (by omega) (by decide)) dX6_insert_86 ?_
            refine ca_aload_nr h dX6_insert_87 rfl ?_
            refine gs_X6_15 h hs ⟨rfl, rfl⟩ dX6_insert_88 ?_
            refine ca_iload_n h dX6_insert_91 rfl ?_
            refine ca_iload_n h dX6_insert_92 rfl ?_
            refine ca_iast h rfl (hs.1 _ _ _ ⟨rfl, rfl⟩) (vp_in_nI (by omega) (by decide)) dX6_insert_93 ?_
            refine ca_aload_nr h dX6_insert_94 rfl ?_
            refine ca_dup h dX6_insert_95 rfl ?_
            refine gi_X6_18 h (hs.1 _ _ _ ⟨rfl, rfl⟩) dX6_insert_96 ?_
            refine ca_iconst h dX6_insert_99 ik_1 ?_
            refine ca_iadd h dX6_insert_100 ?_
            refine pi_X6_18 h (hs.1 _ _ _ ⟨rfl, rfl⟩) dX6_insert_101 ?_
            refine ca_vreturn h hR dX6_insert_104 ?_
            exact ⟨rfl, rfl, by simp only [ch_st_nw, up_s, up_up]; unfold k_ins; rw [if_pos c_9, ecn, ← hq0, eP]; simp only [nI_clamp (show 0 < 2 ^ 31 by omega), hPn]; rfl⟩
          · exact absurd c_31 (by decide)
        | succ jj ih_30 =>
          intro n hn x3 e3 hx mm em
          have hn1 : n < cnt := by omega
          subst e3 em
          obtain ⟨a, ha⟩ : ∃ a, cnt - n = a + 1 := ⟨cnt - n - 1, by omega⟩
          rw [ha] at hx ⊢
          refine ca_iload_n h dX6_insert_30 rfl ?_
          refine ca_if_le (tgt := 80) h dX6_insert_31 (by decide) (fun c_31 => ?_) (fun c_31 => ?_)
          · exact absurd (nI_nle (by omega) (by omega)) (fun z => z (Int32.not_lt.mp c_31))
          ·
            refine ca_aload_nr h dX6_insert_34 rfl ?_
            refine gs_X6_15 h hs ⟨rfl, rfl⟩ dX6_insert_35 ?_
            refine ca_iload_n h dX6_insert_38 rfl ?_
            refine ca_iconst h dX6_insert_39 ik_1 ?_
            refine ca_isub h dX6_insert_40 ?_
            refine ca_top (nI_pred a) ?_
            refine ca_iald h rfl (hs.1 _ _ _ ⟨rfl, rfl⟩) (vp_in_nI (by omega) (by decide)) dX6_insert_41 ?_
            refine ca_iload_n h dX6_insert_42 rfl ?_
            refine ca_icmp_ge (tgt := 80) h dX6_insert_43 (by decide) (fun c_43 => ?_) (fun c_43 => ?_)
            ·
              have cM : ¬ q0 19 0 a < m := by have c9 := c_43; rw [up_s, k_2a_r19, nI_clamp (show a < 2 ^ 31 by omega), k_sh, if_neg (by omega)] at c9; exact c9
              have eP : k_sp (q0 19 0) m cnt = a + 1 := by rw [hx, k_sp, if_neg cM]
              have hPn : (nI (a + 1)).toNatClampNeg = a + 1 := nI_clamp (by omega)
              refine ca_aload_nr h dX6_insert_80 rfl ?_
              refine gs_X6_9 h hs ⟨rfl, rfl⟩ dX6_insert_81 ?_
              refine ca_iload_n h dX6_insert_84 rfl ?_
              refine ca_iload_n h dX6_insert_85 rfl ?_
              refine ca_iast h rfl (hs.1 _ _ _ ⟨rfl, rfl⟩) (vp_in_nI (by omega) (by decide)) dX6_insert_86 ?_
              refine ca_aload_nr h dX6_insert_87 rfl ?_
              refine gs_X6_15 h hs ⟨rfl, rfl⟩ dX6_insert_88 ?_
              refine ca_iload_n h dX6_insert_91 rfl ?_
              refine ca_iload_n h dX6_insert_92 rfl ?_
              refine ca_iast h rfl (hs.1 _ _ _ ⟨rfl, rfl⟩) (vp_in_nI (by omega) (by decide)) dX6_insert_93 ?_
              refine ca_aload_nr h dX6_insert_94 rfl ?_
              refine ca_dup h dX6_insert_95 rfl ?_
              refine gi_X6_18 h (hs.1 _ _ _ ⟨rfl, rfl⟩) dX6_insert_96 ?_
              refine ca_iconst h dX6_insert_99 ik_1 ?_
              refine ca_iadd h dX6_insert_100 ?_
              refine pi_X6_18 h (hs.1 _ _ _ ⟨rfl, rfl⟩) dX6_insert_101 ?_
              refine ca_vreturn h hR dX6_insert_104 ?_
              exact ⟨rfl, rfl, by simp only [ch_st_nw, up_s, up_up]; unfold k_ins; rw [if_pos c_9, ecn, ← hq0, eP]; simp only [nI_clamp (show 0 < 2 ^ 31 by omega), hPn]; rfl⟩
            ·
              have cM : q0 19 0 a < m := by have c9 := c_43; rw [up_s, k_2a_r19, nI_clamp (show a < 2 ^ 31 by omega), k_sh, if_neg (by omega)] at c9; exact c9
              refine ca_aload_nr h dX6_insert_46 rfl ?_
              refine gs_X6_9 h hs ⟨rfl, rfl⟩ dX6_insert_47 ?_
              refine ca_iload_n h dX6_insert_50 rfl ?_
              refine ca_aload_nr h dX6_insert_51 rfl ?_
              refine gs_X6_9 h hs ⟨rfl, rfl⟩ dX6_insert_52 ?_
              refine ca_iload_n h dX6_insert_55 rfl ?_
              refine ca_iconst h dX6_insert_56 ik_1 ?_
              refine ca_isub h dX6_insert_57 ?_
              refine ca_top (nI_pred a) ?_
              refine ca_iald h rfl (hs.1 _ _ _ ⟨rfl, rfl⟩) (vp_in_nI (by omega) (by decide)) dX6_insert_58 ?_
              refine ca_iast h rfl (hs.1 _ _ _ ⟨rfl, rfl⟩) (vp_in_nI (by omega) (by decide)) dX6_insert_59 ?_
              refine ca_aload_nr h dX6_insert_60 rfl ?_
              refine gs_X6_15 h hs ⟨rfl, rfl⟩ dX6_insert_61 ?_
              refine ca_iload_n h dX6_insert_64 rfl ?_
              refine ca_aload_nr h dX6_insert_65 rfl ?_
              refine gs_X6_15 h hs ⟨rfl, rfl⟩ dX6_insert_66 ?_
              refine ca_iload_n h dX6_insert_69 rfl ?_
              refine ca_iconst h dX6_insert_70 ik_1 ?_
              refine ca_isub h dX6_insert_71 ?_
              refine ca_top (nI_pred a) ?_
              refine ca_iald h rfl (hs.1 _ _ _ ⟨rfl, rfl⟩) (vp_in_nI (by omega) (by decide)) dX6_insert_72 ?_
              refine ca_iast h rfl (hs.1 _ _ _ ⟨rfl, rfl⟩) (vp_in_nI (by omega) (by decide)) dX6_insert_73 ?_
              refine ca_iinc h dX6_insert_74 rfl ik_m1 rfl ?_
              refine ca_goto (tgt := 30) h dX6_insert_77 (by decide) ?_
              refine ca_pick [1, 2, 3, 0] rfl ?_
              refine ih_30 (n + 1) (by omega) _ (by rw [pk_m1]; congr 1; omega) ?_ _ ?_
              · rw [hx, k_sp, if_pos cM, show cnt - (n + 1) = a by omega]
              · rw [show cnt - (n + 1) = a by omega]
                simp only [ch_st_nw, up_s, up_up, nI_pred, nI_clamp (show a < 2 ^ 31 by omega), nI_clamp (show a + 1 < 2 ^ 31 by omega)]
                rw [← k_2a_s q0 (show a < cnt by omega)]
                simp only [k_2a_r18, k_2a_18, k_2a_r19]
      refine ca_pick [1, 2, 3, 0] rfl ?_
      exact loop_30 _ 0 (Nat.zero_add _) _ (by rw [Nat.sub_zero]; exact ecnt) rfl _ (by rw [Nat.sub_zero, k_2a_0, hq0, up_id])
    · exact absurd c_9 c_21
set_option maxHeartbeats 100000 in
theorem c_X6_marginOf {l : Launch} {E : ch_E} {S : ch_S} {μ : ch_M} {k i : Nat} (hs : ch_Std E S) (hk : k < 15) (hw : k_wf (μ k)) (hi : i < 13) {c : Int32} : ch_C E l yX6_marginOf cX6_marginOf 7 (some FieldType.int) 2 0 0 S μ [.ref (S.1 15 17 0), .ref (S.1 k 0 0), .ref (S.1 k 3 i), .int c] (ch_F (some (.int (k_mg (μ k) (μ 15 17 0 1) i c))) S (μ)) := by
  refine ch_enter rfl rfl ?_
  intro X hl0 h hG hR hnm
  have h : ch_H X E RX6 cX6_marginOf 7 := h
  show ch_W X E 7 S μ 0 0 0 [(0, .ref (S.1 15 17 0)), (1, .ref (S.1 k 0 0)), (2, .ref (S.1 k 3 i)), (3, .int c)] []
  refine ca_aload_nr h dX6_marginOf_0 rfl ?_
  refine ca_aload_nr h dX6_marginOf_1 rfl ?_
  refine gi_X6_26 h (hs.1 _ _ _ (by show _ ∧ _; exact ⟨by first | assumption | rfl | omega, by first | assumption | rfl | omega⟩)) dX6_marginOf_2 ?_
  refine ca_iload_n h dX6_marginOf_5 rfl ?_
  refine ca_vr h hG ml_X6_57 (c_X3_relationAt hs (by assumption)) (ci := 3) rfl rfl rfl (hs.1 _ _ _ (by show _ ∧ _; exact ⟨by first | assumption | rfl | omega, by first | assumption | rfl | omega⟩)) rfl rfl rfl rfl ⟨Nat.le_refl _, Nat.le_refl _⟩ rfl dX6_marginOf_6 ?_
  refine ca_astore h dX6_marginOf_9 rfl ?_
  refine ca_aload h dX6_marginOf_11 rfl ?_
  refine gi_X6_61 h (hs.1 _ _ _ (vR hk (k_rx_le _ _))) dX6_marginOf_13 ?_
  refine ca_if_eq (tgt := 31) h dX6_marginOf_16 (by decide) (fun c_16 => ?_) (fun c_16 => ?_)
  ·
    refine ca_iconst h dX6_marginOf_31 ik_0 ?_
    refine ca_ireturn h hR rfl dX6_marginOf_32 ?_
    have e9 : k_mg (μ k) (μ 15 17 0 1) i c = _ := if_pos c_16
    exact ⟨by rw [e9], rfl, rfl⟩
  ·
    refine ca_aload_nr h dX6_marginOf_19 rfl ?_
    refine ca_iload_n h dX6_marginOf_20 rfl ?_
    refine ca_vi h hG ml_X6_66 (c_X2_reportsOf hs hk (by omega)) (ci := 2) rfl rfl rfl (hs.1 _ _ _ (by show _ ∧ _; exact ⟨by first | assumption | rfl | omega, by first | assumption | rfl | omega⟩)) rfl rfl rfl rfl ⟨Nat.le_refl _, Nat.le_refl _⟩ rfl dX6_marginOf_21 ?_
    refine ca_aload_nr h dX6_marginOf_24 rfl ?_
    refine gi_X6_69 h (hs.1 _ _ _ (by show _ ∧ _; exact ⟨by first | assumption | rfl | omega, by first | assumption | rfl | omega⟩)) dX6_marginOf_25 ?_
    refine ca_icmp_ge (tgt := 33) h dX6_marginOf_28 (by decide) (fun c_28 => ?_) (fun c_28 => ?_)
    ·
      refine ca_aload_nr h dX6_marginOf_33 rfl ?_
      refine gi_X6_22 h (hs.1 _ _ _ ⟨rfl, rfl⟩) dX6_marginOf_34 ?_
      refine ca_if_ne (tgt := 54) h dX6_marginOf_37 (by decide) (fun c_37 => ?_) (fun c_37 => ?_)
      ·
        refine ca_aload_nr h dX6_marginOf_54 rfl ?_
        refine ca_iload_n h dX6_marginOf_55 rfl ?_
        refine ca_vi h hG ml_X6_31 (c_X2_averageOf hs hk (by omega) (by first | exact hw.cnt (by omega) | (rw [up_n hk15]; exact hw.cnt (by omega)) | (simp only [up_n hk15, up_s]; exact hw.cnt (by omega)))) (ci := 2) rfl rfl rfl (hs.1 _ _ _ (by show _ ∧ _; exact ⟨by first | assumption | rfl | omega, by first | assumption | rfl | omega⟩)) rfl rfl rfl rfl ⟨Nat.le_refl _, Nat.le_refl _⟩ rfl dX6_marginOf_56 ?_
        refine ca_istore h dX6_marginOf_59 rfl ?_
        refine ca_iload h dX6_marginOf_61 rfl ?_
        refine ca_aload_nr h dX6_marginOf_63 rfl ?_
        refine ca_iload_n h dX6_marginOf_64 rfl ?_
        refine ca_vr h hG ml_X6_35 (c_X3_cellAt hs (by assumption)) (ci := 3) rfl rfl rfl (hs.1 _ _ _ (by show _ ∧ _; exact ⟨by first | assumption | rfl | omega, by first | assumption | rfl | omega⟩)) rfl rfl rfl rfl ⟨Nat.le_refl _, Nat.le_refl _⟩ rfl dX6_marginOf_65 ?_
        refine gi_X6_79 h (hs.1 _ _ _ (vC hk (k_ixc _))) dX6_marginOf_68 ?_
        refine ca_icmp_ge (tgt := 76) h dX6_marginOf_71 (by decide) (fun c_71 => ?_) (fun c_71 => ?_)
        ·
          refine ca_iload h dX6_marginOf_76 rfl ?_
          refine ca_aload_nr h dX6_marginOf_78 rfl ?_
          refine ca_aload_nr h dX6_marginOf_79 rfl ?_
          refine gi_X6_26 h (hs.1 _ _ _ (by show _ ∧ _; exact ⟨by first | assumption | rfl | omega, by first | assumption | rfl | omega⟩)) dX6_marginOf_80 ?_
          refine ca_vi h hG ml_X6_31 (c_X2_averageOf hs hk (by omega) (by first | exact hw.cnt (by omega) | (rw [up_n hk15]; exact hw.cnt (by omega)) | (simp only [up_n hk15, up_s]; exact hw.cnt (by omega)))) (ci := 2) rfl rfl rfl (hs.1 _ _ _ (by show _ ∧ _; exact ⟨by first | assumption | rfl | omega, by first | assumption | rfl | omega⟩)) rfl rfl rfl rfl ⟨Nat.le_refl _, Nat.le_refl _⟩ rfl dX6_marginOf_83 ?_
          refine ca_isub h dX6_marginOf_86 ?_
          refine ca_istore h dX6_marginOf_87 rfl ?_
          refine ca_aload_nr h dX6_marginOf_89 rfl ?_
          refine gi_X6_22 h (hs.1 _ _ _ ⟨rfl, rfl⟩) dX6_marginOf_90 ?_
          refine ca_if_eq (tgt := 101) h dX6_marginOf_93 (by decide) (fun c_93 => ?_) (fun c_93 => ?_)
          · exact absurd c_93 c_37
          ·
            refine ca_iload h dX6_marginOf_96 rfl ?_
            refine ca_goto (tgt := 109) h dX6_marginOf_98 (by decide) ?_
            refine ca_ireturn h hR rfl dX6_marginOf_109 ?_
            have e9 : k_mg (μ k) (μ 15 17 0 1) i c = _ := if_neg c_16
            rw [if_neg c_28] at e9
            rw [if_neg (fun z => c_37 z.1)] at e9
            rw [if_neg c_71] at e9
            rw [if_neg c_93] at e9
            exact ⟨by rw [e9], rfl, rfl⟩
        ·
          refine ca_iconst h dX6_marginOf_74 ik_0 ?_
          refine ca_ireturn h hR rfl dX6_marginOf_75 ?_
          have e9 : k_mg (μ k) (μ 15 17 0 1) i c = _ := if_neg c_16
          rw [if_neg c_28] at e9
          rw [if_neg (fun z => c_37 z.1)] at e9
          rw [if_pos c_71] at e9
          exact ⟨by rw [e9], rfl, rfl⟩
      ·
        refine ca_aload_nr h dX6_marginOf_40 rfl ?_
        refine ca_iload_n h dX6_marginOf_41 rfl ?_
        refine ca_aload_nr h dX6_marginOf_42 rfl ?_
        refine gi_X6_72 h (hs.1 _ _ _ (by show _ ∧ _; exact ⟨by first | assumption | rfl | omega, by first | assumption | rfl | omega⟩)) dX6_marginOf_43 ?_
        refine ca_vi h hG ml_X6_75 (c_X2_isBarredAt hs hk (by omega)) (ci := 2) rfl rfl rfl (hs.1 _ _ _ (by show _ ∧ _; exact ⟨by first | assumption | rfl | omega, by first | assumption | rfl | omega⟩)) rfl rfl rfl rfl ⟨Nat.le_refl _, Nat.le_refl _⟩ rfl dX6_marginOf_46 ?_
        refine ca_if_eq (tgt := 54) h dX6_marginOf_49 (by decide) (fun c_49 => ?_) (fun c_49 => ?_)
        ·
          refine ca_aload_nr h dX6_marginOf_54 rfl ?_
          refine ca_iload_n h dX6_marginOf_55 rfl ?_
          refine ca_vi h hG ml_X6_31 (c_X2_averageOf hs hk (by omega) (by first | exact hw.cnt (by omega) | (rw [up_n hk15]; exact hw.cnt (by omega)) | (simp only [up_n hk15, up_s]; exact hw.cnt (by omega)))) (ci := 2) rfl rfl rfl (hs.1 _ _ _ (by show _ ∧ _; exact ⟨by first | assumption | rfl | omega, by first | assumption | rfl | omega⟩)) rfl rfl rfl rfl ⟨Nat.le_refl _, Nat.le_refl _⟩ rfl dX6_marginOf_56 ?_
          refine ca_istore h dX6_marginOf_59 rfl ?_
          refine ca_iload h dX6_marginOf_61 rfl ?_
          refine ca_aload_nr h dX6_marginOf_63 rfl ?_
          refine ca_iload_n h dX6_marginOf_64 rfl ?_
          refine ca_vr h hG ml_X6_35 (c_X3_cellAt hs (by assumption)) (ci := 3) rfl rfl rfl (hs.1 _ _ _ (by show _ ∧ _; exact ⟨by first | assumption | rfl | omega, by first | assumption | rfl | omega⟩)) rfl rfl rfl rfl ⟨Nat.le_refl _, Nat.le_refl _⟩ rfl dX6_marginOf_65 ?_
          refine gi_X6_79 h (hs.1 _ _ _ (vC hk (k_ixc _))) dX6_marginOf_68 ?_
          refine ca_icmp_ge (tgt := 76) h dX6_marginOf_71 (by decide) (fun c_71 => ?_) (fun c_71 => ?_)
          ·
            refine ca_iload h dX6_marginOf_76 rfl ?_
            refine ca_aload_nr h dX6_marginOf_78 rfl ?_
            refine ca_aload_nr h dX6_marginOf_79 rfl ?_
            refine gi_X6_26 h (hs.1 _ _ _ (by show _ ∧ _; exact ⟨by first | assumption | rfl | omega, by first | assumption | rfl | omega⟩)) dX6_marginOf_80 ?_
            refine ca_vi h hG ml_X6_31 (c_X2_averageOf hs hk (by omega) (by first | exact hw.cnt (by omega) | (rw [up_n hk15]; exact hw.cnt (by omega)) | (simp only [up_n hk15, up_s]; exact hw.cnt (by omega)))) (ci := 2) rfl rfl rfl (hs.1 _ _ _ (by show _ ∧ _; exact ⟨by first | assumption | rfl | omega, by first | assumption | rfl | omega⟩)) rfl rfl rfl rfl ⟨Nat.le_refl _, Nat.le_refl _⟩ rfl dX6_marginOf_83 ?_
            refine ca_isub h dX6_marginOf_86 ?_
            refine ca_istore h dX6_marginOf_87 rfl ?_
            refine ca_aload_nr h dX6_marginOf_89 rfl ?_
            refine gi_X6_22 h (hs.1 _ _ _ ⟨rfl, rfl⟩) dX6_marginOf_90 ?_
            refine ca_if_eq (tgt := 101) h dX6_marginOf_93 (by decide) (fun c_93 => ?_) (fun c_93 => ?_)
            ·
              refine ca_iload h dX6_marginOf_101 rfl ?_
              refine ca_aload h dX6_marginOf_103 rfl ?_
              refine gi_X6_82 h (hs.1 _ _ _ (vR hk (k_rx_le _ _))) dX6_marginOf_105 ?_
              refine ca_isub h dX6_marginOf_108 ?_
              refine ca_ireturn h hR rfl dX6_marginOf_109 ?_
              have e9 : k_mg (μ k) (μ 15 17 0 1) i c = _ := if_neg c_16
              rw [if_neg c_28] at e9
              rw [if_neg (fun z => by rw [bI_0.mp c_49] at z; exact absurd z.2 (by decide))] at e9
              rw [if_neg c_71] at e9
              rw [if_pos c_93] at e9
              exact ⟨by rw [e9], rfl, rfl⟩
            · exact absurd c_37 c_93
          ·
            refine ca_iconst h dX6_marginOf_74 ik_0 ?_
            refine ca_ireturn h hR rfl dX6_marginOf_75 ?_
            have e9 : k_mg (μ k) (μ 15 17 0 1) i c = _ := if_neg c_16
            rw [if_neg c_28] at e9
            rw [if_neg (fun z => by rw [bI_0.mp c_49] at z; exact absurd z.2 (by decide))] at e9
            rw [if_pos c_71] at e9
            exact ⟨by rw [e9], rfl, rfl⟩
        ·
          refine ca_iconst h dX6_marginOf_52 ik_0 ?_
          refine ca_ireturn h hR rfl dX6_marginOf_53 ?_
          have e9 : k_mg (μ k) (μ 15 17 0 1) i c = _ := if_neg c_16
          rw [if_neg c_28] at e9
          rw [if_pos ⟨c_37, bI_n0.mp c_49⟩] at e9
          exact ⟨by rw [e9], rfl, rfl⟩
    ·
      refine ca_iconst h dX6_marginOf_31 ik_0 ?_
      refine ca_ireturn h hR rfl dX6_marginOf_32 ?_
      have e9 : k_mg (μ k) (μ 15 17 0 1) i c = _ := if_neg c_16
      rw [if_pos c_28] at e9
      exact ⟨by rw [e9], rfl, rfl⟩
set_option maxHeartbeats 100000 in
theorem c_X6_rank {l : Launch} {E : ch_E} {S : ch_S} {μ : ch_M} {k i : Nat} (hs : ch_Std E S) (hk : k < 15) (hw : k_wf (μ k)) (hi : i < 13) : ch_C E l yX6_rank cX6_rank 6 none 3 0 0 S μ [.ref (S.1 15 17 0), .ref (S.1 k 0 0), .ref (S.1 k 3 i)] (ch_F none S (up μ 15 (k_rank (μ k) (μ 15) i))) := by
  refine ch_enter rfl rfl ?_
  intro X hl0 h hG hR hnm
  have h : ch_H X E RX6 cX6_rank 6 := h
  have hk15 : k ≠ 15 := by omega
  show ch_W X E 6 S μ 0 0 0 [(0, .ref (S.1 15 17 0)), (1, .ref (S.1 k 0 0)), (2, .ref (S.1 k 3 i))] []
  refine ca_aload_nr h dX6_rank_0 rfl ?_
  refine ca_iconst h dX6_rank_1 ik_0 ?_
  refine pi_X6_18 h (hs.1 _ _ _ ⟨rfl, rfl⟩) dX6_rank_2 ?_
  refine ca_aload_nr h dX6_rank_5 rfl ?_
  refine ca_iconst h dX6_rank_6 ik_0 ?_
  refine pi_X6_22 h (hs.1 _ _ _ ⟨rfl, rfl⟩) (by first | exact Or.inl rfl | exact Or.inr rfl | assumption) dX6_rank_7 ?_
  refine ca_mem (μ'' := up μ 15 (nw (nw (μ 15) 17 0 0 0) 17 0 1 0)) (by simp only [ch_st_nw, up_s, up_up]) ?_
  refine ca_aload_nr h dX6_rank_10 rfl ?_
  refine ca_aload_nr h dX6_rank_11 rfl ?_
  refine gi_X6_26 h (hs.1 _ _ _ (by show _ ∧ _; exact ⟨by first | assumption | rfl | omega, by first | assumption | rfl | omega⟩)) dX6_rank_12 ?_
  refine ca_top (show _ = μ k 3 i 5 by rw [up_n hk15]) ?_
  refine ca_vi h hG ml_X6_31 (c_X2_averageOf hs hk (by omega) (by first | exact hw.cnt (by omega) | (rw [up_n hk15]; exact hw.cnt (by omega)) | (simp only [up_n hk15, up_s]; exact hw.cnt (by omega)))) (ci := 2) rfl rfl rfl (hs.1 _ _ _ (by show _ ∧ _; exact ⟨by first | assumption | rfl | omega, by first | assumption | rfl | omega⟩)) rfl rfl rfl rfl ⟨Nat.le_refl _, Nat.le_refl _⟩ rfl dX6_rank_15 ?_
  refine ca_top (show _ = k_avg (μ k) i (μ k 3 i 5) by rw [up_n hk15]) ?_
  refine ca_istore_n h dX6_rank_18 rfl ?_
  refine ca_iload_n h dX6_rank_19 rfl ?_
  refine ca_iconst h dX6_rank_20 ik_m1 ?_
  refine ca_icmp_ne (tgt := 25) h dX6_rank_21 (by decide) (fun c_21 => ?_) (fun c_21 => ?_)
  ·
    refine ca_aload_nr h dX6_rank_25 rfl ?_
    refine ca_iload_n h dX6_rank_26 rfl ?_
    refine ca_aload_nr h dX6_rank_27 rfl ?_
    refine ca_aload_nr h dX6_rank_28 rfl ?_
    refine gi_X6_26 h (hs.1 _ _ _ (by show _ ∧ _; exact ⟨by first | assumption | rfl | omega, by first | assumption | rfl | omega⟩)) dX6_rank_29 ?_
    refine ca_vr h hG ml_X6_35 (c_X3_cellAt hs (by assumption)) (ci := 3) rfl rfl rfl (hs.1 _ _ _ (by show _ ∧ _; exact ⟨by first | assumption | rfl | omega, by first | assumption | rfl | omega⟩)) rfl rfl rfl rfl ⟨Nat.le_refl _, Nat.le_refl _⟩ rfl dX6_rank_32 ?_
    refine gi_X6_41 h (hs.1 _ _ _ (vC hk (k_ixc _))) dX6_rank_35 ?_
    refine ca_icmp_ge (tgt := 45) h dX6_rank_38 (by decide) (fun c_38 => ?_) (fun c_38 => ?_)
    ·
      refine ca_iconst h dX6_rank_45 ik_0 ?_
      refine pi_X6_22 h (hs.1 _ _ _ ⟨rfl, rfl⟩) (Or.inl rfl) dX6_rank_46 ?_
      have eem : k_em (μ k) i = 0 := by
        have c9 := c_38
        rw [up_n hk15] at c9
        unfold k_em
        rw [decide_eq_false c9]; rfl
      obtain ⟨q1, hq1⟩ : ∃ z, z = nw (nw (μ 15) 17 0 0 0) 17 0 1 (k_em (μ k) i) := ⟨_, rfl⟩
      have hz0 : ¬ q1 17 0 0 < 0 := by rw [hq1]; simp [nw_at]
      have hem1 : q1 17 0 1 = k_em (μ k) i := by rw [hq1]; simp only [nw_at]; simp
      refine ca_mem (μ'' := up μ 15 q1) (by rw [hq1, eem]; simp only [ch_st_nw, up_s, up_up, nw_nw]) ?_
      refine ca_iconst h dX6_rank_49 ik_0 ?_
      refine ca_istore h dX6_rank_50 rfl ?_
      have loop_52 : ∀ (jj n : Nat), n + jj = k_cc (μ k) → ∀ (x4 : Int32) (e4 : x4 = nI n) (mm : ch_M) (em : mm = up μ 15 (k_rkL (μ k) (k_em (μ k) i) i n q1)), ch_W X E 6 S mm 0 0 52 [(0, .ref (S.1 15 17 0)), (1, .ref (S.1 k 0 0)), (2, .ref (S.1 k 3 i)), (4, .int x4)] [] := by
        intro jj
        induction jj with
        | zero =>
          intro n hn x4 e4 mm em
          have hn : n = k_cc (μ k) := by omega
          subst e4 em
          refine ca_iload h dX6_rank_52 rfl ?_
          refine ca_aload_nr h dX6_rank_54 rfl ?_
          refine gi_X6_46 h (hs.1 _ _ _ (by show _ ∧ _; exact ⟨by first | assumption | rfl | omega, by first | assumption | rfl | omega⟩)) dX6_rank_55 ?_
          refine ca_icmp_ge (tgt := 90) h dX6_rank_58 (by decide) (fun c_58 => ?_) (fun c_58 => ?_)
          ·
            refine ca_vreturn h hR dX6_rank_90 ?_
            exact ⟨rfl, rfl, by unfold k_rank; rw [if_neg c_21, hn, hq1]⟩
          · exact absurd c_58 (by rw [up_n hk15]; exact lt_no rfl hn)
        | succ jj ih_52 =>
          intro n hn x4 e4 mm em
          have hn1 : n < k_cc (μ k) := by omega
          subst e4 em
          have hn8 : n < 8 := Nat.lt_of_lt_of_le hn1 hw.2.1
          refine ca_iload h dX6_rank_52 rfl ?_
          refine ca_aload_nr h dX6_rank_54 rfl ?_
          refine gi_X6_46 h (hs.1 _ _ _ (by show _ ∧ _; exact ⟨by first | assumption | rfl | omega, by first | assumption | rfl | omega⟩)) dX6_rank_55 ?_
          refine ca_icmp_ge (tgt := 90) h dX6_rank_58 (by decide) (fun c_58 => ?_) (fun c_58 => ?_)
          · exact absurd (by rw [up_n hk15]; exact lt_yes rfl hn1) c_58
          ·
            refine ca_aload_nr h dX6_rank_61 rfl ?_
            refine ca_aload_nr h dX6_rank_62 rfl ?_
            refine ca_aload_nr h dX6_rank_63 rfl ?_
            refine ca_iload h dX6_rank_64 rfl ?_
            refine ca_vi h hG ml_X6_49 (c_X6_marginOf hs hk (by rw [up_n hk15]; exact hw) (by omega)) (ci := 6) rfl rfl rfl (hs.1 _ _ _ (by show _ ∧ _; exact ⟨by first | assumption | rfl | omega, by first | assumption | rfl | omega⟩)) rfl rfl rfl rfl ⟨Nat.le_refl _, Nat.le_refl _⟩ rfl dX6_rank_66 ?_
            refine ca_top (show _ = k_mg (μ k) (k_em (μ k) i) i (nI n) by rw [up_n hk15, up_s, k_rkL_em, hem1]) ?_
            refine ca_istore h dX6_rank_69 rfl ?_
            refine ca_iload h dX6_rank_71 rfl ?_
            refine ca_if_le (tgt := 84) h dX6_rank_73 (by decide) (fun c_73 => ?_) (fun c_73 => ?_)
            ·
              refine ca_iinc h dX6_rank_84 rfl ik_1 rfl ?_
              refine ca_goto (tgt := 52) h dX6_rank_87 (by decide) ?_
              refine ca_pick [2, 3, 4, 0] rfl ?_
              exact ih_52 (n + 1) (by omega) _ (nI_1 n) _ (by congr 1; exact (if_neg c_73).symm)
            ·
              refine ca_aload_nr h dX6_rank_76 rfl ?_
              refine ca_iload h dX6_rank_77 rfl ?_
              refine ca_iload h dX6_rank_79 rfl ?_
              refine ca_vv h hG ml_X6_53 (c_X6_insert hs (by rw [up_s]; exact k_rkL_cnt _ _ _ _ _ hz0)) (ci := 6) rfl rfl rfl (hs.1 _ _ _ (by show _ ∧ _; exact ⟨by first | assumption | rfl | omega, by first | assumption | rfl | omega⟩)) rfl rfl rfl rfl ⟨Nat.le_refl _, Nat.le_refl _⟩ rfl dX6_rank_81 ?_
              refine ca_iinc h dX6_rank_84 rfl ik_1 rfl ?_
              refine ca_goto (tgt := 52) h dX6_rank_87 (by decide) ?_
              refine ca_pick [2, 3, 4, 0] rfl ?_
              exact ih_52 (n + 1) (by omega) _ (nI_1 n) _ (by simp only [up_s, up_up]; congr 1; exact (if_pos c_73).symm)
      refine ca_pick [2, 3, 4, 0] rfl ?_
      exact loop_52 _ 0 (Nat.zero_add _) _ rfl _ rfl
    ·
      refine ca_iconst h dX6_rank_41 ik_1 ?_
      refine ca_goto (tgt := 46) h dX6_rank_42 (by decide) ?_
      refine pi_X6_22 h (hs.1 _ _ _ ⟨rfl, rfl⟩) (Or.inr rfl) dX6_rank_46 ?_
      have eem : k_em (μ k) i = 1 := by
        have c9 := c_38
        rw [up_n hk15] at c9
        unfold k_em
        rw [decide_eq_true c9]; rfl
      obtain ⟨q1, hq1⟩ : ∃ z, z = nw (nw (μ 15) 17 0 0 0) 17 0 1 (k_em (μ k) i) := ⟨_, rfl⟩
      have hz0 : ¬ q1 17 0 0 < 0 := by rw [hq1]; simp [nw_at]
      have hem1 : q1 17 0 1 = k_em (μ k) i := by rw [hq1]; simp only [nw_at]; simp
      refine ca_mem (μ'' := up μ 15 q1) (by rw [hq1, eem]; simp only [ch_st_nw, up_s, up_up, nw_nw]) ?_
      refine ca_iconst h dX6_rank_49 ik_0 ?_
      refine ca_istore h dX6_rank_50 rfl ?_
      have loop_52 : ∀ (jj n : Nat), n + jj = k_cc (μ k) → ∀ (x4 : Int32) (e4 : x4 = nI n) (mm : ch_M) (em : mm = up μ 15 (k_rkL (μ k) (k_em (μ k) i) i n q1)), ch_W X E 6 S mm 0 0 52 [(0, .ref (S.1 15 17 0)), (1, .ref (S.1 k 0 0)), (2, .ref (S.1 k 3 i)), (4, .int x4)] [] := by
        intro jj
        induction jj with
        | zero =>
          intro n hn x4 e4 mm em
          have hn : n = k_cc (μ k) := by omega
          subst e4 em
          refine ca_iload h dX6_rank_52 rfl ?_
          refine ca_aload_nr h dX6_rank_54 rfl ?_
          refine gi_X6_46 h (hs.1 _ _ _ (by show _ ∧ _; exact ⟨by first | assumption | rfl | omega, by first | assumption | rfl | omega⟩)) dX6_rank_55 ?_
          refine ca_icmp_ge (tgt := 90) h dX6_rank_58 (by decide) (fun c_58 => ?_) (fun c_58 => ?_)
          ·
            refine ca_vreturn h hR dX6_rank_90 ?_
            exact ⟨rfl, rfl, by unfold k_rank; rw [if_neg c_21, hn, hq1]⟩
          · exact absurd c_58 (by rw [up_n hk15]; exact lt_no rfl hn)
        | succ jj ih_52 =>
          intro n hn x4 e4 mm em
          have hn1 : n < k_cc (μ k) := by omega
          subst e4 em
          have hn8 : n < 8 := Nat.lt_of_lt_of_le hn1 hw.2.1
          refine ca_iload h dX6_rank_52 rfl ?_
          refine ca_aload_nr h dX6_rank_54 rfl ?_
          refine gi_X6_46 h (hs.1 _ _ _ (by show _ ∧ _; exact ⟨by first | assumption | rfl | omega, by first | assumption | rfl | omega⟩)) dX6_rank_55 ?_
          refine ca_icmp_ge (tgt := 90) h dX6_rank_58 (by decide) (fun c_58 => ?_) (fun c_58 => ?_)
          · exact absurd (by rw [up_n hk15]; exact lt_yes rfl hn1) c_58
          ·
            refine ca_aload_nr h dX6_rank_61 rfl ?_
            refine ca_aload_nr h dX6_rank_62 rfl ?_
            refine ca_aload_nr h dX6_rank_63 rfl ?_
            refine ca_iload h dX6_rank_64 rfl ?_
            refine ca_vi h hG ml_X6_49 (c_X6_marginOf hs hk (by rw [up_n hk15]; exact hw) (by omega)) (ci := 6) rfl rfl rfl (hs.1 _ _ _ (by show _ ∧ _; exact ⟨by first | assumption | rfl | omega, by first | assumption | rfl | omega⟩)) rfl rfl rfl rfl ⟨Nat.le_refl _, Nat.le_refl _⟩ rfl dX6_rank_66 ?_
            refine ca_top (show _ = k_mg (μ k) (k_em (μ k) i) i (nI n) by rw [up_n hk15, up_s, k_rkL_em, hem1]) ?_
            refine ca_istore h dX6_rank_69 rfl ?_
            refine ca_iload h dX6_rank_71 rfl ?_
            refine ca_if_le (tgt := 84) h dX6_rank_73 (by decide) (fun c_73 => ?_) (fun c_73 => ?_)
            ·
              refine ca_iinc h dX6_rank_84 rfl ik_1 rfl ?_
              refine ca_goto (tgt := 52) h dX6_rank_87 (by decide) ?_
              refine ca_pick [2, 3, 4, 0] rfl ?_
              exact ih_52 (n + 1) (by omega) _ (nI_1 n) _ (by congr 1; exact (if_neg c_73).symm)
            ·
              refine ca_aload_nr h dX6_rank_76 rfl ?_
              refine ca_iload h dX6_rank_77 rfl ?_
              refine ca_iload h dX6_rank_79 rfl ?_
              refine ca_vv h hG ml_X6_53 (c_X6_insert hs (by rw [up_s]; exact k_rkL_cnt _ _ _ _ _ hz0)) (ci := 6) rfl rfl rfl (hs.1 _ _ _ (by show _ ∧ _; exact ⟨by first | assumption | rfl | omega, by first | assumption | rfl | omega⟩)) rfl rfl rfl rfl ⟨Nat.le_refl _, Nat.le_refl _⟩ rfl dX6_rank_81 ?_
              refine ca_iinc h dX6_rank_84 rfl ik_1 rfl ?_
              refine ca_goto (tgt := 52) h dX6_rank_87 (by decide) ?_
              refine ca_pick [2, 3, 4, 0] rfl ?_
              exact ih_52 (n + 1) (by omega) _ (nI_1 n) _ (by simp only [up_s, up_up]; congr 1; exact (if_pos c_73).symm)
      refine ca_pick [2, 3, 4, 0] rfl ?_
      exact loop_52 _ 0 (Nat.zero_add _) _ rfl _ rfl
  ·
    refine ca_vreturn h hR dX6_rank_24 ?_
    exact ⟨rfl, rfl, by unfold k_rank; rw [if_pos c_21]⟩
