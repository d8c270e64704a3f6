/-! what writes a whole network -/
theorem nw_at (n : ch_N) (kd i j : Nat) (v : Int32) (kd' i' j' : Nat) : nw n kd i j v kd' i' j' = if kd' = kd ∧ i' = i ∧ j' = j then v else n kd' i' j' := by
  unfold nw up
  by_cases h2 : kd' = kd <;> by_cases h3 : i' = i <;> by_cases h4 : j' = j <;> simp [h2, h3, h4]
theorem na_at (n : ch_N) (kd i : Nat) (f : Nat → Int32) (kd' i' j' : Nat) : na n kd i f kd' i' j' = if kd' = kd ∧ i' = i then f j' else n kd' i' j' := by
  unfold na up
  by_cases h2 : kd' = kd <;> by_cases h3 : i' = i <;> simp [h2, h3]
def k_clrR (n : ch_N) (b : Nat) : ch_N := fun kd i j => if kd = 2 ∧ i < b ∧ j < 4 then 0 else n kd i j
theorem k_clrR_0 (n : ch_N) : k_clrR n 0 = n := by
  funext kd i j
  unfold k_clrR
  rw [if_neg (by omega)]
theorem k_clrR_s (n : ch_N) (b : Nat) : k_clr2 (k_clrR n b) b = k_clrR n (b + 1) := by
  funext kd i j
  unfold k_clr2
  simp only [nw_at]
  unfold k_clrR
  by_cases h1 : kd = 2 ∧ i = b
  · obtain ⟨rfl, rfl⟩ := h1
    by_cases h2 : j < 4
    · rcases (show j = 0 ∨ j = 1 ∨ j = 2 ∨ j = 3 by omega) with rfl | rfl | rfl | rfl <;> simp
    · rw [if_neg (by omega), if_neg (by omega), if_neg (by omega), if_neg (by omega), if_neg (by omega), if_neg (by omega)]
  · rw [if_neg (fun q => h1 ⟨q.1, q.2.1⟩), if_neg (fun q => h1 ⟨q.1, q.2.1⟩), if_neg (fun q => h1 ⟨q.1, q.2.1⟩), if_neg (fun q => h1 ⟨q.1, q.2.1⟩)]
    by_cases h3 : kd = 2 ∧ i < b ∧ j < 4
    · rw [if_pos h3, if_pos ⟨h3.1, by omega, h3.2.2⟩]
    · rw [if_neg h3, if_neg (fun q => h3 ⟨q.1, by have : i ≠ b := fun z => h1 ⟨q.1, z⟩; omega, q.2.2⟩)]
def k_clear (n : ch_N) : ch_N := na (k_clrR (k_dfl (nw (nw (nw (nw n 0 0 0 0) 0 0 1 0) 0 0 2 0) 0 0 3 0)) 64) 7 0 (fun _ => 0)
def k_cph (n m : ch_N) : ch_N := nw (nw (nw (nw (nw (nw (nw (nw (nw (nw n 0 0 0 (m 0 0 0)) 0 0 1 (m 0 0 1)) 0 0 2 (m 0 0 2)) 0 0 3 (m 0 0 3)) 0 0 4 (m 0 0 4)) 0 0 5 (m 0 0 5)) 0 0 6 (m 0 0 6)) 0 0 7 (m 0 0 7)) 0 0 8 (m 0 0 8)) 0 0 9 (m 0 0 9)
def k_cpP (n m : ch_N) (a r q : Nat) : ch_N := fun kd i j => if (kd = 1 ∧ i < a ∧ j < 9) ∨ (kd = 2 ∧ i < r ∧ j < 4) ∨ (kd = 3 ∧ i < q ∧ j < 10) ∨ ((kd = 4 ∨ kd = 5 ∨ kd = 6) ∧ i < q) then m kd i j else n kd i j
theorem k_cpP_0 (n m : ch_N) : k_cpP n m 0 0 0 = n := by
  funext kd i j
  unfold k_cpP
  rw [if_neg (by omega)]
theorem k_cpP_a (n m : ch_N) (a r q : Nat) : k_cpc (k_cpP n m a r q) a m a = k_cpP n m (a + 1) r q := by
  funext kd i j
  unfold k_cpc
  simp only [nw_at]
  by_cases h1 : kd = 1 ∧ i = a
  · obtain ⟨rfl, rfl⟩ := h1
    by_cases h2 : j < 9
    · unfold k_cpP
      rcases (show j = 0 ∨ j = 1 ∨ j = 2 ∨ j = 3 ∨ j = 4 ∨ j = 5 ∨ j = 6 ∨ j = 7 ∨ j = 8 by omega) with rfl | rfl | rfl | rfl | rfl | rfl | rfl | rfl | rfl <;> simp
    · simp only [show j ≠ 0 by omega, show j ≠ 1 by omega, show j ≠ 2 by omega, show j ≠ 3 by omega, show j ≠ 4 by omega, show j ≠ 5 by omega, show j ≠ 6 by omega, show j ≠ 7 by omega, show j ≠ 8 by omega, and_false, if_false]
      unfold k_cpP
      rw [if_neg (by omega), if_neg (by omega)]
  · have h0 : ∀ z : Nat, ¬ (kd = 1 ∧ i = a ∧ j = z) := fun z q => h1 ⟨q.1, q.2.1⟩
    simp only [h0, if_false]
    unfold k_cpP
    by_cases h3 : (kd = 1 ∧ i < a ∧ j < 9) ∨ (kd = 2 ∧ i < r ∧ j < 4) ∨ (kd = 3 ∧ i < q ∧ j < 10) ∨ ((kd = 4 ∨ kd = 5 ∨ kd = 6) ∧ i < q)
    · rw [if_pos h3, if_pos (by omega)]
    · rw [if_neg h3, if_neg (by omega)]
theorem k_cpP_r (n m : ch_N) (a r q : Nat) : k_cpr (k_cpP n m a r q) r m r = k_cpP n m a (r + 1) q := by
  funext kd i j
  unfold k_cpr
  simp only [nw_at]
  by_cases h1 : kd = 2 ∧ i = r
  · obtain ⟨rfl, rfl⟩ := h1
    by_cases h2 : j < 4
    · unfold k_cpP
      rcases (show j = 0 ∨ j = 1 ∨ j = 2 ∨ j = 3 by omega) with rfl | rfl | rfl | rfl <;> simp
    · simp only [show j ≠ 0 by omega, show j ≠ 1 by omega, show j ≠ 2 by omega, show j ≠ 3 by omega, and_false, if_false]
      unfold k_cpP
      rw [if_neg (by omega), if_neg (by omega)]
  · have h0 : ∀ z : Nat, ¬ (kd = 2 ∧ i = r ∧ j = z) := fun z q => h1 ⟨q.1, q.2.1⟩
    simp only [h0, if_false]
    unfold k_cpP
    by_cases h3 : (kd = 1 ∧ i < a ∧ j < 9) ∨ (kd = 2 ∧ i < r ∧ j < 4) ∨ (kd = 3 ∧ i < q ∧ j < 10) ∨ ((kd = 4 ∨ kd = 5 ∨ kd = 6) ∧ i < q)
    · rw [if_pos h3, if_pos (by omega)]
    · rw [if_neg h3, if_neg (by omega)]
theorem k_cpP_q (n m : ch_N) (a r q : Nat) : k_cpm (k_cpP n m a r q) q m q = k_cpP n m a r (q + 1) := by
  funext kd i j
  unfold k_cpm
  simp only [nw_at, na_at]
  by_cases h4 : (kd = 4 ∨ kd = 5 ∨ kd = 6) ∧ i = q
  · obtain ⟨rfl | rfl | rfl, rfl⟩ := h4 <;> simp [k_cpP]
  by_cases h1 : kd = 3 ∧ i = q
  · obtain ⟨rfl, rfl⟩ := h1
    by_cases h2 : j < 10
    · unfold k_cpP
      rcases (show j = 0 ∨ j = 1 ∨ j = 2 ∨ j = 3 ∨ j = 4 ∨ j = 5 ∨ j = 6 ∨ j = 7 ∨ j = 8 ∨ j = 9 by omega) with rfl | rfl | rfl | rfl | rfl | rfl | rfl | rfl | rfl | rfl <;> simp
    · simp only [show j ≠ 0 by omega, show j ≠ 1 by omega, show j ≠ 2 by omega, show j ≠ 3 by omega, show j ≠ 4 by omega, show j ≠ 5 by omega, show j ≠ 6 by omega, show j ≠ 7 by omega, show j ≠ 8 by omega, show j ≠ 9 by omega, and_false, if_false, show ¬ (3 = 6 ∧ True) by decide, show ¬ (3 = 5 ∧ True) by decide, show ¬ (3 = 4 ∧ True) by decide]
      unfold k_cpP
      rw [if_neg (by omega), if_neg (by omega)]
  · have h0 : ∀ z : Nat, ¬ (kd = 3 ∧ i = q ∧ j = z) := fun z w => h1 ⟨w.1, w.2.1⟩
    simp only [h0, if_false]
    rw [if_neg (by omega), if_neg (by omega), if_neg (by omega)]
    unfold k_cpP
    by_cases h3 : (kd = 1 ∧ i < a ∧ j < 9) ∨ (kd = 2 ∧ i < r ∧ j < 4) ∨ (kd = 3 ∧ i < q ∧ j < 10) ∨ ((kd = 4 ∨ kd = 5 ∨ kd = 6) ∧ i < q)
    · rw [if_pos h3, if_pos (by omega)]
    · rw [if_neg h3, if_neg (by omega)]
def k_cp (n m : ch_N) : ch_N := na (k_cpP (k_cph n m) m 8 64 12) 7 0 (m 7 0)
theorem c_X3_relJ {l : Launch} {E : ch_E} {S : ch_S} {μ : ch_M} {k a b : Nat} (hs : ch_Std E S) (hk : k < 15) (ha : a < 8) (hb : b < 8) : ch_C E l yX3_relationAt cX3_relationAt 5 (some (FieldType.object "CellHandover$Relation")) 1 0 0 S μ [.ref (S.1 k 0 0), .int (nI a), .int (nI b)] (ch_F (some (.ref (S.1 k 2 (8 * a + b)))) S μ) := by
  have h := c_X3_relationAt (l := l) (μ := μ) hs hk (x := nI a) (y := nI b)
  rw [k_rx_in ha hb] at h
  exact h
/-- setting up a call; a handover -/
def k_suc (n : ch_N) (i : Nat) (s : Int32) : Int32 := if k_free n s = true then s else (k_rc n s (n 3 i 0) (n 3 i 1) (k_cc n)).1
def k_su (n : ch_N) (i : Nat) (d s : Int32) : Int32 × ch_N :=
  if k_suc n i s = -1 then
    (if k_place n s = true then (-3, k_wfs (nw n 3 i 6 d) i s (nw n 3 i 6 d 0 0 3)) else (-5, k_cnt n 4))
  else (k_suc n i s, k_beg (nw (if k_suc n i s = s then n else k_cnt n 5) 3 i 6 d) i (k_suc n i s))
def k_ho (n : ch_N) (i : Nat) (t : Int32) : ch_N :=
  let n1 := if k_isb n i t (n 0 0 3) = true then k_cnt n 1 else n
  let n2 := k_bar n1 i (n 3 i 5) (n1 0 0 3 + n1 0 0 6)
  let n3 := nw (nw (nw n2 3 i 5 t) 3 i 7 0) 3 i 8 (-1)
  k_cnt (nw n3 2 (k_rx (n 3 i 5) t) 2 (n3 2 (k_rx (n 3 i 5) t) 2 + 1)) 0
set_option maxHeartbeats 100000 in
theorem c_X3_clear {l : Launch} {E : ch_E} {S : ch_S} {μ : ch_M} {k : Nat} (hs : ch_Std E S) (hk : k < 15) : ch_C E l yX3_clear cX3_clear 3 none 2 0 0 S μ [.ref (S.1 k 0 0)] (ch_F none S (up μ k (k_clear (μ k)))) := by
  refine ch_enter rfl rfl ?_
  intro X hl0 h hG hR hnm
  have h : ch_H X E RX3 cX3_clear 3 := h
  obtain ⟨n0, hn0⟩ : ∃ z, z = k_dfl (nw (nw (nw (nw (μ k) 0 0 0 0) 0 0 1 0) 0 0 2 0) 0 0 3 0) := ⟨_, rfl⟩
  show ch_W X E 3 S μ 0 0 0 [(0, .ref (S.1 k 0 0))] []
  refine ca_aload_nr h dX3_clear_0 rfl ?_
  refine ca_iconst h dX3_clear_1 ik_0 ?_
  refine pi_X3_70 h (hs.1 _ _ _ (by show _ ∧ _; exact ⟨by first | assumption | rfl | omega, by first | assumption | rfl | omega⟩)) dX3_clear_2 ?_
  refine ca_aload_nr h dX3_clear_5 rfl ?_
  refine ca_iconst h dX3_clear_6 ik_0 ?_
  refine pi_X3_73 h (hs.1 _ _ _ (by show _ ∧ _; exact ⟨by first | assumption | rfl | omega, by first | assumption | rfl | omega⟩)) dX3_clear_7 ?_
  refine ca_aload_nr h dX3_clear_10 rfl ?_
  refine ca_iconst h dX3_clear_11 ik_0 ?_
  refine pi_X3_76 h (hs.1 _ _ _ (by show _ ∧ _; exact ⟨by first | assumption | rfl | omega, by first | assumption | rfl | omega⟩)) dX3_clear_12 ?_
  refine ca_aload_nr h dX3_clear_15 rfl ?_
  refine ca_iconst h dX3_clear_16 ik_0 ?_
  refine pi_X3_79 h (hs.1 _ _ _ (by show _ ∧ _; exact ⟨by first | assumption | rfl | omega, by first | assumption | rfl | omega⟩)) dX3_clear_17 ?_
  refine ca_aload_nr h dX3_clear_20 rfl ?_
  refine ca_vv h hG ml_X3_48 (c_X3_setDefaults hs hk) (ci := 3) rfl rfl rfl (hs.1 _ _ _ (by show _ ∧ _; exact ⟨by first | assumption | rfl | omega, by first | assumption | rfl | omega⟩)) rfl rfl rfl rfl ⟨Nat.le_refl _, Nat.le_refl _⟩ rfl dX3_clear_21 ?_
  refine ca_iconst h dX3_clear_24 ik_0 ?_
  refine ca_istore_n h dX3_clear_25 rfl ?_
  have loop_26 : ∀ (jj a : Nat), a + jj = 8 → ∀ (x1 : Int32) (e1 : x1 = nI a) (mm : ch_M) (em : mm = up μ k (k_clrR n0 (8 * a))), ch_W X E 3 S mm 0 0 26 [(0, .ref (S.1 k 0 0)), (1, .int x1)] [] := by
    intro jj
    induction jj with
    | zero =>
      intro a hn x1 e1 mm em
      have hn : a = 8 := by omega
      subst e1 em
      refine ca_iload_n h dX3_clear_26 rfl ?_
      refine ca_bipush h dX3_clear_27 bk_8 ?_
      refine ca_icmp_ge (tgt := 61) h dX3_clear_29 (by decide) (fun c_29 => ?_) (fun c_29 => ?_)
      ·
        refine ca_aload_nr h dX3_clear_61 rfl ?_
        refine gs_X3_29 h hs (by show _ ∧ _; exact ⟨by first | assumption | rfl | omega, by first | assumption | rfl | omega⟩) dX3_clear_62 ?_
        refine ca_iconst h dX3_clear_65 ik_0 ?_
        refine ca_sv h hG ms_X3_89 (c_fillN 8 (hs.1 _ _ _ (by show _ ∧ _; exact ⟨by assumption, by first | assumption | rfl | omega⟩)) rfl rfl) rfl rfl rfl rfl ⟨Nat.le_refl _, Nat.le_refl _⟩ rfl dX3_clear_66 ?_
        refine ca_vreturn h hR dX3_clear_69 ?_
        exact ⟨rfl, rfl, by simp only [ch_sa_na, up_s, up_up]; rw [hn, hn0]; rfl⟩
      · exact absurd c_29 (by rw [hn]; decide)
    | succ jj ih_26 =>
      intro a hn x1 e1 mm em
      have hn1 : a < 8 := by omega
      subst e1 em
      refine ca_iload_n h dX3_clear_26 rfl ?_
      refine ca_bipush h dX3_clear_27 bk_8 ?_
      refine ca_icmp_ge (tgt := 61) h dX3_clear_29 (by decide) (fun c_29 => ?_) (fun c_29 => ?_)
      · exact absurd (nI_lt (b := 8) hn1 (by decide)) c_29
      ·
        refine ca_iconst h dX3_clear_32 ik_0 ?_
        refine ca_istore_n h dX3_clear_33 rfl ?_
        have loop_34 : ∀ (jj b : Nat), b + jj = 8 → ∀ (x2 : Int32) (e2 : x2 = nI b) (mm : ch_M) (em : mm = up μ k (k_clrR n0 (8 * a + b))), ch_W X E 3 S mm 0 0 34 [(0, .ref (S.1 k 0 0)), (1, .int (nI a)), (2, .int x2)] [] := by
          intro jj
          induction jj with
          | zero =>
            intro b hn x2 e2 mm em
            have hn : b = 8 := by omega
            subst e2 em
            have hn9 : 8 * a + b = 8 * (a + 1) := by omega
            refine ca_iload_n h dX3_clear_34 rfl ?_
            refine ca_bipush h dX3_clear_35 bk_8 ?_
            refine ca_icmp_ge (tgt := 55) h dX3_clear_37 (by decide) (fun c_37 => ?_) (fun c_37 => ?_)
            ·
              refine ca_iinc h dX3_clear_55 rfl ik_1 rfl ?_
              refine ca_goto (tgt := 26) h dX3_clear_58 (by decide) ?_
              refine ca_pick [1, 0] rfl ?_
              exact ih_26 (a + 1) (by omega) _ (nI_1 a) _ (by rw [hn9])
            · exact absurd c_37 (by rw [hn]; decide)
          | succ jj ih_34 =>
            intro b hn x2 e2 mm em
            have hn1 : b < 8 := by omega
            subst e2 em
            refine ca_iload_n h dX3_clear_34 rfl ?_
            refine ca_bipush h dX3_clear_35 bk_8 ?_
            refine ca_icmp_ge (tgt := 55) h dX3_clear_37 (by decide) (fun c_37 => ?_) (fun c_37 => ?_)
            · exact absurd (nI_lt (b := 8) hn1 (by decide)) c_37
            ·
              refine ca_aload_nr h dX3_clear_40 rfl ?_
              refine ca_iload_n h dX3_clear_41 rfl ?_
              refine ca_iload_n h dX3_clear_42 rfl ?_
              refine ca_vr h hG ml_X3_82 (c_X3_relJ hs hk (by omega) (by omega)) (ci := 3) rfl rfl rfl (hs.1 _ _ _ (by show _ ∧ _; exact ⟨by first | assumption | rfl | omega, by first | assumption | rfl | omega⟩)) rfl rfl rfl rfl ⟨Nat.le_refl _, Nat.le_refl _⟩ rfl dX3_clear_43 ?_
              refine ca_vv h hG ml_X3_86 (c_X7_clear hs hk (by omega)) (ci := 7) rfl rfl rfl (hs.1 _ _ _ (by show _ ∧ _; exact ⟨by first | assumption | rfl | omega, by first | assumption | rfl | omega⟩)) rfl rfl rfl rfl ⟨Nat.le_refl _, Nat.le_refl _⟩ rfl dX3_clear_46 ?_
              refine ca_iinc h dX3_clear_49 rfl ik_1 rfl ?_
              refine ca_goto (tgt := 34) h dX3_clear_52 (by decide) ?_
              refine ca_pick [1, 2, 0] rfl ?_
              exact ih_34 (b + 1) (by omega) _ (nI_1 b) _ (by rw [up_s, up_up, k_clrR_s]; rfl)
        refine ca_pick [1, 2, 0] rfl ?_
        exact loop_34 _ 0 (Nat.zero_add _) _ rfl _ rfl
  refine ca_pick [1, 0] rfl ?_
  exact loop_26 _ 0 (Nat.zero_add _) _ rfl _ (by rw [k_clrR_0, hn0]; simp only [ch_st_nw, up_s, up_up])
set_option maxHeartbeats 100000 in
theorem c_X3_copyFrom {l : Launch} {E : ch_E} {S : ch_S} {μ : ch_M} {k k2 : Nat} (hs : ch_Std E S) (hk : k < 15) (hk2 : k2 < 15) (hne : k2 ≠ k) : ch_C E l yX3_copyFrom cX3_copyFrom 4 none 3 0 0 S μ [.ref (S.1 k 0 0), .ref (S.1 k2 0 0)] (ch_F none S (up μ k (k_cp (μ k) (μ k2)))) := by
  refine ch_enter rfl rfl ?_
  intro X hl0 h hG hR hnm
  have h : ch_H X E RX3 cX3_copyFrom 4 := h
  obtain ⟨n0, hn0⟩ : ∃ z, z = k_cph (μ k) (μ k2) := ⟨_, rfl⟩
  show ch_W X E 4 S μ 0 0 0 [(0, .ref (S.1 k 0 0)), (1, .ref (S.1 k2 0 0))] []
  refine ca_aload_nr h dX3_copyFrom_0 rfl ?_
  refine ca_aload_nr h dX3_copyFrom_1 rfl ?_
  refine gi_X3_70 h (hs.1 _ _ _ (by show _ ∧ _; exact ⟨by first | assumption | rfl | omega, by first | assumption | rfl | omega⟩)) dX3_copyFrom_2 ?_
  refine pi_X3_70 h (hs.1 _ _ _ (by show _ ∧ _; exact ⟨by first | assumption | rfl | omega, by first | assumption | rfl | omega⟩)) dX3_copyFrom_5 ?_
  refine ca_aload_nr h dX3_copyFrom_8 rfl ?_
  refine ca_aload_nr h dX3_copyFrom_9 rfl ?_
  refine gi_X3_73 h (hs.1 _ _ _ (by show _ ∧ _; exact ⟨by first | assumption | rfl | omega, by first | assumption | rfl | omega⟩)) dX3_copyFrom_10 ?_
  refine pi_X3_73 h (hs.1 _ _ _ (by show _ ∧ _; exact ⟨by first | assumption | rfl | omega, by first | assumption | rfl | omega⟩)) dX3_copyFrom_13 ?_
  refine ca_aload_nr h dX3_copyFrom_16 rfl ?_
  refine ca_aload_nr h dX3_copyFrom_17 rfl ?_
  refine gi_X3_76 h (hs.1 _ _ _ (by show _ ∧ _; exact ⟨by first | assumption | rfl | omega, by first | assumption | rfl | omega⟩)) dX3_copyFrom_18 ?_
  refine pi_X3_76 h (hs.1 _ _ _ (by show _ ∧ _; exact ⟨by first | assumption | rfl | omega, by first | assumption | rfl | omega⟩)) dX3_copyFrom_21 ?_
  refine ca_aload_nr h dX3_copyFrom_24 rfl ?_
  refine ca_aload_nr h dX3_copyFrom_25 rfl ?_
  refine gi_X3_79 h (hs.1 _ _ _ (by show _ ∧ _; exact ⟨by first | assumption | rfl | omega, by first | assumption | rfl | omega⟩)) dX3_copyFrom_26 ?_
  refine pi_X3_79 h (hs.1 _ _ _ (by show _ ∧ _; exact ⟨by first | assumption | rfl | omega, by first | assumption | rfl | omega⟩)) dX3_copyFrom_29 ?_
  refine ca_aload_nr h dX3_copyFrom_32 rfl ?_
  refine ca_aload_nr h dX3_copyFrom_33 rfl ?_
  refine gi_X3_51 h (hs.1 _ _ _ (by show _ ∧ _; exact ⟨by first | assumption | rfl | omega, by first | assumption | rfl | omega⟩)) dX3_copyFrom_34 ?_
  refine pi_X3_51 h (hs.1 _ _ _ (by show _ ∧ _; exact ⟨by first | assumption | rfl | omega, by first | assumption | rfl | omega⟩)) dX3_copyFrom_37 ?_
  refine ca_aload_nr h dX3_copyFrom_40 rfl ?_
  refine ca_aload_nr h dX3_copyFrom_41 rfl ?_
  refine gi_X3_55 h (hs.1 _ _ _ (by show _ ∧ _; exact ⟨by first | assumption | rfl | omega, by first | assumption | rfl | omega⟩)) dX3_copyFrom_42 ?_
  refine pi_X3_55 h (hs.1 _ _ _ (by show _ ∧ _; exact ⟨by first | assumption | rfl | omega, by first | assumption | rfl | omega⟩)) dX3_copyFrom_45 ?_
  refine ca_aload_nr h dX3_copyFrom_48 rfl ?_
  refine ca_aload_nr h dX3_copyFrom_49 rfl ?_
  refine gi_X3_58 h (hs.1 _ _ _ (by show _ ∧ _; exact ⟨by first | assumption | rfl | omega, by first | assumption | rfl | omega⟩)) dX3_copyFrom_50 ?_
  refine pi_X3_58 h (hs.1 _ _ _ (by show _ ∧ _; exact ⟨by first | assumption | rfl | omega, by first | assumption | rfl | omega⟩)) dX3_copyFrom_53 ?_
  refine ca_aload_nr h dX3_copyFrom_56 rfl ?_
  refine ca_aload_nr h dX3_copyFrom_57 rfl ?_
  refine gi_X3_61 h (hs.1 _ _ _ (by show _ ∧ _; exact ⟨by first | assumption | rfl | omega, by first | assumption | rfl | omega⟩)) dX3_copyFrom_58 ?_
  refine pi_X3_61 h (hs.1 _ _ _ (by show _ ∧ _; exact ⟨by first | assumption | rfl | omega, by first | assumption | rfl | omega⟩)) dX3_copyFrom_61 ?_
  refine ca_aload_nr h dX3_copyFrom_64 rfl ?_
  refine ca_aload_nr h dX3_copyFrom_65 rfl ?_
  refine gi_X3_64 h (hs.1 _ _ _ (by show _ ∧ _; exact ⟨by first | assumption | rfl | omega, by first | assumption | rfl | omega⟩)) dX3_copyFrom_66 ?_
  refine pi_X3_64 h (hs.1 _ _ _ (by show _ ∧ _; exact ⟨by first | assumption | rfl | omega, by first | assumption | rfl | omega⟩)) dX3_copyFrom_69 ?_
  refine ca_aload_nr h dX3_copyFrom_72 rfl ?_
  refine ca_aload_nr h dX3_copyFrom_73 rfl ?_
  refine gi_X3_67 h (hs.1 _ _ _ (by show _ ∧ _; exact ⟨by first | assumption | rfl | omega, by first | assumption | rfl | omega⟩)) dX3_copyFrom_74 ?_
  refine pi_X3_67 h (hs.1 _ _ _ (by show _ ∧ _; exact ⟨by first | assumption | rfl | omega, by first | assumption | rfl | omega⟩)) dX3_copyFrom_77 ?_
  refine ca_iconst h dX3_copyFrom_80 ik_0 ?_
  refine ca_istore_n h dX3_copyFrom_81 rfl ?_
  have loop_82 : ∀ (jj a : Nat), a + jj = 8 → ∀ (x2 : Int32) (e2 : x2 = nI a) (mm : ch_M) (em : mm = up μ k (k_cpP n0 (μ k2) a (8 * a) 0)), ch_W X E 4 S mm 0 0 82 [(0, .ref (S.1 k 0 0)), (1, .ref (S.1 k2 0 0)), (2, .int x2)] [] := by
    intro jj
    induction jj with
    | zero =>
      intro a hn x2 e2 mm em
      have hn : a = 8 := by omega
      subst e2 em
      refine ca_iload_n h dX3_copyFrom_82 rfl ?_
      refine ca_bipush h dX3_copyFrom_83 bk_8 ?_
      refine ca_icmp_ge (tgt := 136) h dX3_copyFrom_85 (by decide) (fun c_85 => ?_) (fun c_85 => ?_)
      ·
        refine ca_iconst h dX3_copyFrom_136 ik_0 ?_
        refine ca_istore_n h dX3_copyFrom_137 rfl ?_
        have loop_138 : ∀ (jj q : Nat), q + jj = 12 → ∀ (x2 : Int32) (e2 : x2 = nI q) (mm : ch_M) (em : mm = up μ k (k_cpP n0 (μ k2) 8 64 q)), ch_W X E 4 S mm 0 0 138 [(0, .ref (S.1 k 0 0)), (1, .ref (S.1 k2 0 0)), (2, .int x2)] [] := by
          intro jj
          induction jj with
          | zero =>
            intro q hn x2 e2 mm em
            have hn : q = 12 := by omega
            subst e2 em
            refine ca_iload_n h dX3_copyFrom_138 rfl ?_
            refine ca_bipush h dX3_copyFrom_139 bk_12 ?_
            refine ca_icmp_ge (tgt := 163) h dX3_copyFrom_141 (by decide) (fun c_141 => ?_) (fun c_141 => ?_)
            ·
              refine ca_aload_nr h dX3_copyFrom_163 rfl ?_
              refine gs_X3_29 h hs (by show _ ∧ _; exact ⟨by first | assumption | rfl | omega, by first | assumption | rfl | omega⟩) dX3_copyFrom_164 ?_
              refine ca_aload_nr h dX3_copyFrom_167 rfl ?_
              refine gs_X3_29 h hs (by show _ ∧ _; exact ⟨by first | assumption | rfl | omega, by first | assumption | rfl | omega⟩) dX3_copyFrom_168 ?_
              refine ca_nsv h hG (n := 2) (host := "CellHandover") (List.mem_of_getElem? (i := 7) rfl) kw_514 kw_1 kw_515 ⟨by decide, by decide, by decide +kernel⟩ (c_copyInts 8 (hs.1 k2 7 0 ⟨hk2, rfl⟩) (hs.1 k 7 0 ⟨hk, rfl⟩) rfl (by decide)) rfl rfl rfl rfl ⟨Nat.le_refl _, Nat.le_refl _⟩ rfl dX3_copyFrom_171 ?_
              refine ca_vreturn h hR dX3_copyFrom_174 ?_
              exact ⟨rfl, rfl, by simp only [ch_sa_na, up_s, up_n hne, up_up]; rw [hn, hn0]; rfl⟩
            · exact absurd c_141 (by rw [hn]; decide)
          | succ jj ih_138 =>
            intro q hn x2 e2 mm em
            have hn1 : q < 12 := by omega
            subst e2 em
            refine ca_iload_n h dX3_copyFrom_138 rfl ?_
            refine ca_bipush h dX3_copyFrom_139 bk_12 ?_
            refine ca_icmp_ge (tgt := 163) h dX3_copyFrom_141 (by decide) (fun c_141 => ?_) (fun c_141 => ?_)
            · exact absurd (nI_lt (b := 12) hn1 (by decide)) c_141
            ·
              refine ca_aload_nr h dX3_copyFrom_144 rfl ?_
              refine ca_iload_n h dX3_copyFrom_145 rfl ?_
              refine ca_vr h hG ml_X3_106 (c_X3_mobileJ hs hk (by omega)) (ci := 3) rfl rfl rfl (hs.1 _ _ _ (by show _ ∧ _; exact ⟨by first | assumption | rfl | omega, by first | assumption | rfl | omega⟩)) rfl rfl rfl rfl ⟨Nat.le_refl _, Nat.le_refl _⟩ rfl dX3_copyFrom_146 ?_
              refine ca_aload_nr h dX3_copyFrom_149 rfl ?_
              refine ca_iload_n h dX3_copyFrom_150 rfl ?_
              refine ca_vr h hG ml_X3_106 (c_X3_mobileJ hs hk2 (by omega)) (ci := 3) rfl rfl rfl (hs.1 _ _ _ (by show _ ∧ _; exact ⟨by first | assumption | rfl | omega, by first | assumption | rfl | omega⟩)) rfl rfl rfl rfl ⟨Nat.le_refl _, Nat.le_refl _⟩ rfl dX3_copyFrom_151 ?_
              refine ca_vv h hG ml_X3_110 (c_X2_copyFrom hs hk hk2 hne (by omega) (by omega)) (ci := 2) rfl rfl rfl (hs.1 _ _ _ (by show _ ∧ _; exact ⟨by first | assumption | rfl | omega, by first | assumption | rfl | omega⟩)) rfl rfl rfl rfl ⟨Nat.le_refl _, Nat.le_refl _⟩ rfl dX3_copyFrom_154 ?_
              refine ca_iinc h dX3_copyFrom_157 rfl ik_1 rfl ?_
              refine ca_goto (tgt := 138) h dX3_copyFrom_160 (by decide) ?_
              refine ca_pick [1, 2, 0] rfl ?_
              exact ih_138 (q + 1) (by omega) _ (nI_1 q) _ (by rw [up_s, up_n hne, up_up, k_cpP_q])
        refine ca_pick [1, 2, 0] rfl ?_
        exact loop_138 _ 0 (Nat.zero_add _) _ rfl _ (by rw [hn])
      · exact absurd c_85 (by rw [hn]; decide)
    | succ jj ih_82 =>
      intro a hn x2 e2 mm em
      have hn1 : a < 8 := by omega
      subst e2 em
      refine ca_iload_n h dX3_copyFrom_82 rfl ?_
      refine ca_bipush h dX3_copyFrom_83 bk_8 ?_
      refine ca_icmp_ge (tgt := 136) h dX3_copyFrom_85 (by decide) (fun c_85 => ?_) (fun c_85 => ?_)
      · exact absurd (nI_lt (b := 8) hn1 (by decide)) c_85
      ·
        refine ca_aload_nr h dX3_copyFrom_88 rfl ?_
        refine ca_iload_n h dX3_copyFrom_89 rfl ?_
        refine ca_vr h hG ml_X3_95 (c_X3_cellJ hs hk (by omega)) (ci := 3) rfl rfl rfl (hs.1 _ _ _ (by show _ ∧ _; exact ⟨by first | assumption | rfl | omega, by first | assumption | rfl | omega⟩)) rfl rfl rfl rfl ⟨Nat.le_refl _, Nat.le_refl _⟩ rfl dX3_copyFrom_90 ?_
        refine ca_aload_nr h dX3_copyFrom_93 rfl ?_
        refine ca_iload_n h dX3_copyFrom_94 rfl ?_
        refine ca_vr h hG ml_X3_95 (c_X3_cellJ hs hk2 (by omega)) (ci := 3) rfl rfl rfl (hs.1 _ _ _ (by show _ ∧ _; exact ⟨by first | assumption | rfl | omega, by first | assumption | rfl | omega⟩)) rfl rfl rfl rfl ⟨Nat.le_refl _, Nat.le_refl _⟩ rfl dX3_copyFrom_95 ?_
        refine ca_vv h hG ml_X3_99 (c_X0_copyFrom hs hk hk2 hne (by omega) (by omega)) (ci := 0) rfl rfl rfl (hs.1 _ _ _ (by show _ ∧ _; exact ⟨by first | assumption | rfl | omega, by first | assumption | rfl | omega⟩)) rfl rfl rfl rfl ⟨Nat.le_refl _, Nat.le_refl _⟩ rfl dX3_copyFrom_98 ?_
        refine ca_iconst h dX3_copyFrom_101 ik_0 ?_
        refine ca_istore_n h dX3_copyFrom_102 rfl ?_
        have loop_103 : ∀ (jj b : Nat), b + jj = 8 → ∀ (x3 : Int32) (e3 : x3 = nI b) (mm : ch_M) (em : mm = up μ k (k_cpP n0 (μ k2) (a + 1) (8 * a + b) 0)), ch_W X E 4 S mm 0 0 103 [(0, .ref (S.1 k 0 0)), (1, .ref (S.1 k2 0 0)), (2, .int (nI a)), (3, .int x3)] [] := by
          intro jj
          induction jj with
          | zero =>
            intro b hn x3 e3 mm em
            have hn : b = 8 := by omega
            subst e3 em
            have hn9 : 8 * a + b = 8 * (a + 1) := by omega
            refine ca_iload_n h dX3_copyFrom_103 rfl ?_
            refine ca_bipush h dX3_copyFrom_104 bk_8 ?_
            refine ca_icmp_ge (tgt := 130) h dX3_copyFrom_106 (by decide) (fun c_106 => ?_) (fun c_106 => ?_)
            ·
              refine ca_iinc h dX3_copyFrom_130 rfl ik_1 rfl ?_
              refine ca_goto (tgt := 82) h dX3_copyFrom_133 (by decide) ?_
              refine ca_pick [1, 2, 0] rfl ?_
              exact ih_82 (a + 1) (by omega) _ (nI_1 a) _ (by rw [hn9])
            · exact absurd c_106 (by rw [hn]; decide)
          | succ jj ih_103 =>
            intro b hn x3 e3 mm em
            have hn1 : b < 8 := by omega
            subst e3 em
            refine ca_iload_n h dX3_copyFrom_103 rfl ?_
            refine ca_bipush h dX3_copyFrom_104 bk_8 ?_
            refine ca_icmp_ge (tgt := 130) h dX3_copyFrom_106 (by decide) (fun c_106 => ?_) (fun c_106 => ?_)
            · exact absurd (nI_lt (b := 8) hn1 (by decide)) c_106
            ·
              refine ca_aload_nr h dX3_copyFrom_109 rfl ?_
              refine ca_iload_n h dX3_copyFrom_110 rfl ?_
              refine ca_iload_n h dX3_copyFrom_111 rfl ?_
              refine ca_vr h hG ml_X3_82 (c_X3_relJ hs hk (by omega) (by omega)) (ci := 3) rfl rfl rfl (hs.1 _ _ _ (by show _ ∧ _; exact ⟨by first | assumption | rfl | omega, by first | assumption | rfl | omega⟩)) rfl rfl rfl rfl ⟨Nat.le_refl _, Nat.le_refl _⟩ rfl dX3_copyFrom_112 ?_
              refine ca_aload_nr h dX3_copyFrom_115 rfl ?_
              refine ca_iload_n h dX3_copyFrom_116 rfl ?_
              refine ca_iload_n h dX3_copyFrom_117 rfl ?_
              refine ca_vr h hG ml_X3_82 (c_X3_relJ hs hk2 (by omega) (by omega)) (ci := 3) rfl rfl rfl (hs.1 _ _ _ (by show _ ∧ _; exact ⟨by first | assumption | rfl | omega, by first | assumption | rfl | omega⟩)) rfl rfl rfl rfl ⟨Nat.le_refl _, Nat.le_refl _⟩ rfl dX3_copyFrom_118 ?_
              refine ca_vv h hG ml_X3_103 (c_X7_copyFrom hs hk hk2 hne (by omega) (by omega)) (ci := 7) rfl rfl rfl (hs.1 _ _ _ (by show _ ∧ _; exact ⟨by first | assumption | rfl | omega, by first | assumption | rfl | omega⟩)) rfl rfl rfl rfl ⟨Nat.le_refl _, Nat.le_refl _⟩ rfl dX3_copyFrom_121 ?_
              refine ca_iinc h dX3_copyFrom_124 rfl ik_1 rfl ?_
              refine ca_goto (tgt := 103) h dX3_copyFrom_127 (by decide) ?_
              refine ca_pick [1, 2, 3, 0] rfl ?_
              exact ih_103 (b + 1) (by omega) _ (nI_1 b) _ (by rw [up_s, up_n hne, up_up, k_cpP_r]; rfl)
        refine ca_pick [1, 2, 3, 0] rfl ?_
        exact loop_103 _ 0 (Nat.zero_add _) _ rfl _ (by rw [up_s, up_n hne, up_up, k_cpP_a]; rfl)
  refine ca_pick [1, 2, 0] rfl ?_
  exact loop_82 _ 0 (Nat.zero_add _) _ rfl _ (by rw [k_cpP_0, hn0]; simp only [ch_st_nw, up_s, up_n hne, up_up]; rfl)
set_option maxHeartbeats 100000 in
theorem c_X3_handOver {l : Launch} {E : ch_E} {S : ch_S} {μ : ch_M} {k i : Nat} (hs : ch_Std E S) (hk : k < 15) (hi : i < 13) {t : Int32} : ch_C E l yX3_handOver cX3_handOver 4 none 2 0 0 S μ [.ref (S.1 k 0 0), .ref (S.1 k 3 i), .int t] (ch_F none S (up μ k (k_ho (μ k) i t))) := by
  refine ch_enter rfl rfl ?_
  intro X hl0 h hG hR hnm
  have h : ch_H X E RX3 cX3_handOver 4 := h
  show ch_W X E 4 S μ 0 0 0 [(0, .ref (S.1 k 0 0)), (1, .ref (S.1 k 3 i)), (2, .int t)] []
  refine ca_aload_nr h dX3_handOver_0 rfl ?_
  refine gi_X3_134 h (hs.1 _ _ _ (by show _ ∧ _; exact ⟨by first | assumption | rfl | omega, by first | assumption | rfl | omega⟩)) dX3_handOver_1 ?_
  refine ca_istore_n h dX3_handOver_4 rfl ?_
  refine ca_aload_nr h dX3_handOver_5 rfl ?_
  refine ca_iload_n h dX3_handOver_6 rfl ?_
  refine ca_aload_nr h dX3_handOver_7 rfl ?_
  refine gi_X3_79 h (hs.1 _ _ _ (by show _ ∧ _; exact ⟨by first | assumption | rfl | omega, by first | assumption | rfl | omega⟩)) dX3_handOver_8 ?_
  refine ca_vi h hG ml_X3_198 (c_X2_isBarredAt hs hk (by omega)) (ci := 2) rfl rfl rfl (hs.1 _ _ _ (by show _ ∧ _; exact ⟨by first | assumption | rfl | omega, by first | assumption | rfl | omega⟩)) rfl rfl rfl rfl ⟨Nat.le_refl _, Nat.le_refl _⟩ rfl dX3_handOver_11 ?_
  refine ca_if_eq (tgt := 22) h dX3_handOver_14 (by decide) (fun c_14 => ?_) (fun c_14 => ?_)
  ·
    refine ca_aload_nr h dX3_handOver_22 rfl ?_
    refine ca_iload_n h dX3_handOver_23 rfl ?_
    refine ca_aload_nr h dX3_handOver_24 rfl ?_
    refine gi_X3_79 h (hs.1 _ _ _ (by show _ ∧ _; exact ⟨by first | assumption | rfl | omega, by first | assumption | rfl | omega⟩)) dX3_handOver_25 ?_
    refine ca_aload_nr h dX3_handOver_28 rfl ?_
    refine gi_X3_58 h (hs.1 _ _ _ (by show _ ∧ _; exact ⟨by first | assumption | rfl | omega, by first | assumption | rfl | omega⟩)) dX3_handOver_29 ?_
    refine ca_iadd h dX3_handOver_32 ?_
    refine ca_vv h hG ml_X3_201 (c_X2_bar hs hk (by omega)) (ci := 2) rfl rfl rfl (hs.1 _ _ _ (by show _ ∧ _; exact ⟨by first | assumption | rfl | omega, by first | assumption | rfl | omega⟩)) rfl rfl rfl rfl ⟨Nat.le_refl _, Nat.le_refl _⟩ rfl dX3_handOver_33 ?_
    refine ca_aload_nr h dX3_handOver_36 rfl ?_
    refine ca_iload_n h dX3_handOver_37 rfl ?_
    refine pi_X3_134 h (hs.1 _ _ _ (by show _ ∧ _; exact ⟨by first | assumption | rfl | omega, by first | assumption | rfl | omega⟩)) dX3_handOver_38 ?_
    refine ca_aload_nr h dX3_handOver_41 rfl ?_
    refine ca_iconst h dX3_handOver_42 ik_0 ?_
    refine pi_X3_204 h (hs.1 _ _ _ (by show _ ∧ _; exact ⟨by first | assumption | rfl | omega, by first | assumption | rfl | omega⟩)) dX3_handOver_43 ?_
    refine ca_aload_nr h dX3_handOver_46 rfl ?_
    refine ca_iconst h dX3_handOver_47 ik_m1 ?_
    refine pi_X3_144 h (hs.1 _ _ _ (by show _ ∧ _; exact ⟨by first | assumption | rfl | omega, by first | assumption | rfl | omega⟩)) dX3_handOver_48 ?_
    refine ca_aload_nr h dX3_handOver_51 rfl ?_
    refine ca_iload_n h dX3_handOver_52 rfl ?_
    refine ca_iload_n h dX3_handOver_53 rfl ?_
    refine ca_vr h hG ml_X3_82 (c_X3_relationAt hs (by assumption)) (ci := 3) rfl rfl rfl (hs.1 _ _ _ (by show _ ∧ _; exact ⟨by first | assumption | rfl | omega, by first | assumption | rfl | omega⟩)) rfl rfl rfl rfl ⟨Nat.le_refl _, Nat.le_refl _⟩ rfl dX3_handOver_54 ?_
    refine ca_dup h dX3_handOver_57 rfl ?_
    refine gi_X3_207 h (hs.1 _ _ _ (vR hk (k_rx_le _ _))) dX3_handOver_58 ?_
    refine ca_iconst h dX3_handOver_61 ik_1 ?_
    refine ca_iadd h dX3_handOver_62 ?_
    refine pi_X3_207 h (hs.1 _ _ _ (vR hk (k_rx_le _ _))) dX3_handOver_63 ?_
    refine ca_aload_nr h dX3_handOver_66 rfl ?_
    refine ca_iconst h dX3_handOver_67 ik_0 ?_
    refine ca_vv h hG ml_X3_177 (c_X3_count (j := 0) hs hk (by decide)) (ci := 3) rfl rfl rfl (hs.1 _ _ _ (by show _ ∧ _; exact ⟨by first | assumption | rfl | omega, by first | assumption | rfl | omega⟩)) rfl rfl rfl rfl ⟨Nat.le_refl _, Nat.le_refl _⟩ rfl dX3_handOver_68 ?_
    refine ca_vreturn h hR dX3_handOver_71 ?_
    exact ⟨rfl, rfl, by simp only [ch_st_nw, up_s, up_up]; unfold k_ho; simp only [bI_0.mp c_14, if_false, Bool.false_eq_true]⟩
  ·
    refine ca_aload_nr h dX3_handOver_17 rfl ?_
    refine ca_iconst h dX3_handOver_18 ik_1 ?_
    refine ca_vv h hG ml_X3_177 (c_X3_count (j := 1) hs hk (by decide)) (ci := 3) rfl rfl rfl (hs.1 _ _ _ (by show _ ∧ _; exact ⟨by first | assumption | rfl | omega, by first | assumption | rfl | omega⟩)) rfl rfl rfl rfl ⟨Nat.le_refl _, Nat.le_refl _⟩ rfl dX3_handOver_19 ?_
    refine ca_aload_nr h dX3_handOver_22 rfl ?_
    refine ca_iload_n h dX3_handOver_23 rfl ?_
    refine ca_aload_nr h dX3_handOver_24 rfl ?_
    refine gi_X3_79 h (hs.1 _ _ _ (by show _ ∧ _; exact ⟨by first | assumption | rfl | omega, by first | assumption | rfl | omega⟩)) dX3_handOver_25 ?_
    refine ca_aload_nr h dX3_handOver_28 rfl ?_
    refine gi_X3_58 h (hs.1 _ _ _ (by show _ ∧ _; exact ⟨by first | assumption | rfl | omega, by first | assumption | rfl | omega⟩)) dX3_handOver_29 ?_
    refine ca_iadd h dX3_handOver_32 ?_
    refine ca_vv h hG ml_X3_201 (c_X2_bar hs hk (by omega)) (ci := 2) rfl rfl rfl (hs.1 _ _ _ (by show _ ∧ _; exact ⟨by first | assumption | rfl | omega, by first | assumption | rfl | omega⟩)) rfl rfl rfl rfl ⟨Nat.le_refl _, Nat.le_refl _⟩ rfl dX3_handOver_33 ?_
    refine ca_aload_nr h dX3_handOver_36 rfl ?_
    refine ca_iload_n h dX3_handOver_37 rfl ?_
    refine pi_X3_134 h (hs.1 _ _ _ (by show _ ∧ _; exact ⟨by first | assumption | rfl | omega, by first | assumption | rfl | omega⟩)) dX3_handOver_38 ?_
    refine ca_aload_nr h dX3_handOver_41 rfl ?_
    refine ca_iconst h dX3_handOver_42 ik_0 ?_
    refine pi_X3_204 h (hs.1 _ _ _ (by show _ ∧ _; exact ⟨by first | assumption | rfl | omega, by first | assumption | rfl | omega⟩)) dX3_handOver_43 ?_
    refine ca_aload_nr h dX3_handOver_46 rfl ?_
    refine ca_iconst h dX3_handOver_47 ik_m1 ?_
    refine pi_X3_144 h (hs.1 _ _ _ (by show _ ∧ _; exact ⟨by first | assumption | rfl | omega, by first | assumption | rfl | omega⟩)) dX3_handOver_48 ?_
    refine ca_aload_nr h dX3_handOver_51 rfl ?_
    refine ca_iload_n h dX3_handOver_52 rfl ?_
    refine ca_iload_n h dX3_handOver_53 rfl ?_
    refine ca_vr h hG ml_X3_82 (c_X3_relationAt hs (by assumption)) (ci := 3) rfl rfl rfl (hs.1 _ _ _ (by show _ ∧ _; exact ⟨by first | assumption | rfl | omega, by first | assumption | rfl | omega⟩)) rfl rfl rfl rfl ⟨Nat.le_refl _, Nat.le_refl _⟩ rfl dX3_handOver_54 ?_
    refine ca_dup h dX3_handOver_57 rfl ?_
    refine gi_X3_207 h (hs.1 _ _ _ (vR hk (k_rx_le _ _))) dX3_handOver_58 ?_
    refine ca_iconst h dX3_handOver_61 ik_1 ?_
    refine ca_iadd h dX3_handOver_62 ?_
    refine pi_X3_207 h (hs.1 _ _ _ (vR hk (k_rx_le _ _))) dX3_handOver_63 ?_
    refine ca_aload_nr h dX3_handOver_66 rfl ?_
    refine ca_iconst h dX3_handOver_67 ik_0 ?_
    refine ca_vv h hG ml_X3_177 (c_X3_count (j := 0) hs hk (by decide)) (ci := 3) rfl rfl rfl (hs.1 _ _ _ (by show _ ∧ _; exact ⟨by first | assumption | rfl | omega, by first | assumption | rfl | omega⟩)) rfl rfl rfl rfl ⟨Nat.le_refl _, Nat.le_refl _⟩ rfl dX3_handOver_68 ?_
    refine ca_vreturn h hR dX3_handOver_71 ?_
    exact ⟨rfl, rfl, by simp only [ch_st_nw, up_s, up_up]; unfold k_ho; simp only [bI_n0.mp c_14, if_true]⟩
set_option maxHeartbeats 100000 in
theorem c_X3_setUpCall {l : Launch} {E : ch_E} {S : ch_S} {μ : ch_M} {k i : Nat} (hs : ch_Std E S) (hk : k < 15) (hm : k_mc (μ k) ≤ 12) (hc : k_cc (μ k) ≤ 8) (hi : i < 13) {d s : Int32} : ch_C E l yX3_setUpCall cX3_setUpCall 5 (some FieldType.int) 5 0 0 S μ [.ref (S.1 k 0 0), .ref (S.1 k 3 i), .int d, .int s] (ch_F (some (.int ((k_su (μ k) i d s).1))) S (up μ k (k_su (μ k) i d s).2)) := by
  refine ch_enter rfl rfl ?_
  intro X hl0 h hG hR hnm
  have h : ch_H X E RX3 cX3_setUpCall 5 := h
  show ch_W X E 5 S μ 0 0 0 [(0, .ref (S.1 k 0 0)), (1, .ref (S.1 k 3 i)), (2, .int d), (3, .int s)] []
  refine ca_aload_nr h dX3_setUpCall_0 rfl ?_
  refine ca_iload_n h dX3_setUpCall_1 rfl ?_
  refine ca_vi h hG ml_X3_163 (c_X3_hasFreeChannel hs hk (by assumption)) (ci := 3) rfl rfl rfl (hs.1 _ _ _ (by show _ ∧ _; exact ⟨by first | assumption | rfl | omega, by first | assumption | rfl | omega⟩)) rfl rfl rfl rfl ⟨Nat.le_refl _, Nat.le_refl _⟩ rfl dX3_setUpCall_2 ?_
  refine ca_if_eq (tgt := 12) h dX3_setUpCall_5 (by decide) (fun c_5 => ?_) (fun c_5 => ?_)
  ·
    refine ca_aload_nr h dX3_setUpCall_12 rfl ?_
    refine ca_iload_n h dX3_setUpCall_13 rfl ?_
    refine ca_aload_nr h dX3_setUpCall_14 rfl ?_
    refine gi_X3_167 h (hs.1 _ _ _ (by show _ ∧ _; exact ⟨by first | assumption | rfl | omega, by first | assumption | rfl | omega⟩)) dX3_setUpCall_15 ?_
    refine ca_aload_nr h dX3_setUpCall_18 rfl ?_
    refine gi_X3_170 h (hs.1 _ _ _ (by show _ ∧ _; exact ⟨by first | assumption | rfl | omega, by first | assumption | rfl | omega⟩)) dX3_setUpCall_19 ?_
    refine ca_vi h hG ml_X3_173 (c_X3_retryCell hs hk (by assumption) (by assumption)) (ci := 3) rfl rfl rfl (hs.1 _ _ _ (by show _ ∧ _; exact ⟨by first | assumption | rfl | omega, by first | assumption | rfl | omega⟩)) rfl rfl rfl rfl ⟨Nat.le_refl _, Nat.le_refl _⟩ rfl dX3_setUpCall_22 ?_
    have ec : k_suc (μ k) i s = (k_rc (μ k) s ((μ k) 3 i 0) ((μ k) 3 i 1) (k_cc (μ k))).1 := by unfold k_suc; rw [if_neg (by rw [bI_0.mp c_5]; decide)]
    refine ca_top ec.symm ?_
    refine ca_istore h dX3_setUpCall_25 rfl ?_
    refine ca_iload h dX3_setUpCall_27 rfl ?_
    refine ca_iconst h dX3_setUpCall_29 ik_m1 ?_
    refine ca_icmp_eq (tgt := 58) h dX3_setUpCall_30 (by decide) (fun c_30 => ?_) (fun c_30 => ?_)
    ·
      refine ca_aload_nr h dX3_setUpCall_58 rfl ?_
      refine ca_iload_n h dX3_setUpCall_59 rfl ?_
      refine ca_vi h hG ml_X3_187 (c_X3_hasQueuePlace hs hk (by assumption)) (ci := 3) rfl rfl rfl (hs.1 _ _ _ (by show _ ∧ _; exact ⟨by first | assumption | rfl | omega, by first | assumption | rfl | omega⟩)) rfl rfl rfl rfl ⟨Nat.le_refl _, Nat.le_refl _⟩ rfl dX3_setUpCall_60 ?_
      refine ca_if_eq (tgt := 83) h dX3_setUpCall_63 (by decide) (fun c_63 => ?_) (fun c_63 => ?_)
      ·
        refine ca_aload_nr h dX3_setUpCall_83 rfl ?_
        refine ca_iconst h dX3_setUpCall_84 ik_4 ?_
        refine ca_vv h hG ml_X3_177 (c_X3_count (j := 4) hs hk (by decide)) (ci := 3) rfl rfl rfl (hs.1 _ _ _ (by show _ ∧ _; exact ⟨by first | assumption | rfl | omega, by first | assumption | rfl | omega⟩)) rfl rfl rfl rfl ⟨Nat.le_refl _, Nat.le_refl _⟩ rfl dX3_setUpCall_85 ?_
        refine ca_bipush h dX3_setUpCall_88 bk_m5 ?_
        refine ca_ireturn h hR rfl dX3_setUpCall_90 ?_
        have e9 : k_su (μ k) i d s = _ := if_pos c_30
        rw [if_neg (by rw [bI_0.mp c_63]; decide)] at e9
        exact ⟨by rw [e9], rfl, by rw [e9] <;> simp only [ch_st_nw, up_s, up_up]⟩
      ·
        refine ca_aload_nr h dX3_setUpCall_66 rfl ?_
        refine ca_iload_n h dX3_setUpCall_67 rfl ?_
        refine pi_X3_181 h (hs.1 _ _ _ (by show _ ∧ _; exact ⟨by first | assumption | rfl | omega, by first | assumption | rfl | omega⟩)) dX3_setUpCall_68 ?_
        refine ca_aload_nr h dX3_setUpCall_71 rfl ?_
        refine ca_iload_n h dX3_setUpCall_72 rfl ?_
        refine ca_aload_nr h dX3_setUpCall_73 rfl ?_
        refine gi_X3_79 h (hs.1 _ _ _ (by show _ ∧ _; exact ⟨by first | assumption | rfl | omega, by first | assumption | rfl | omega⟩)) dX3_setUpCall_74 ?_
        refine ca_vv h hG ml_X3_190 (c_X2_waitForSetUp hs hk (by omega)) (ci := 2) rfl rfl rfl (hs.1 _ _ _ (by show _ ∧ _; exact ⟨by first | assumption | rfl | omega, by first | assumption | rfl | omega⟩)) rfl rfl rfl rfl ⟨Nat.le_refl _, Nat.le_refl _⟩ rfl dX3_setUpCall_77 ?_
        refine ca_bipush h dX3_setUpCall_80 bk_m3 ?_
        refine ca_ireturn h hR rfl dX3_setUpCall_82 ?_
        have e9 : k_su (μ k) i d s = _ := if_pos c_30
        rw [if_pos (bI_n0.mp c_63)] at e9
        exact ⟨by rw [e9], rfl, by rw [e9] <;> simp only [ch_st_nw, up_s, up_up]⟩
    ·
      refine ca_iload h dX3_setUpCall_33 rfl ?_
      refine ca_iload_n h dX3_setUpCall_35 rfl ?_
      refine ca_icmp_eq (tgt := 44) h dX3_setUpCall_36 (by decide) (fun c_36 => ?_) (fun c_36 => ?_)
      ·
        refine ca_aload_nr h dX3_setUpCall_44 rfl ?_
        refine ca_iload_n h dX3_setUpCall_45 rfl ?_
        refine pi_X3_181 h (hs.1 _ _ _ (by show _ ∧ _; exact ⟨by first | assumption | rfl | omega, by first | assumption | rfl | omega⟩)) dX3_setUpCall_46 ?_
        refine ca_aload_nr h dX3_setUpCall_49 rfl ?_
        refine ca_iload h dX3_setUpCall_50 rfl ?_
        refine ca_vv h hG ml_X3_184 (c_X2_beginToTalk hs hk (by omega)) (ci := 2) rfl rfl rfl (hs.1 _ _ _ (by show _ ∧ _; exact ⟨by first | assumption | rfl | omega, by first | assumption | rfl | omega⟩)) rfl rfl rfl rfl ⟨Nat.le_refl _, Nat.le_refl _⟩ rfl dX3_setUpCall_52 ?_
        refine ca_iload h dX3_setUpCall_55 rfl ?_
        refine ca_ireturn h hR rfl dX3_setUpCall_57 ?_
        have e9 : k_su (μ k) i d s = _ := if_neg c_30
        rw [if_pos c_36] at e9
        exact ⟨by rw [e9], rfl, by rw [e9] <;> simp only [ch_st_nw, up_s, up_up]⟩
      ·
        refine ca_aload_nr h dX3_setUpCall_39 rfl ?_
        refine ca_iconst h dX3_setUpCall_40 ik_5 ?_
        refine ca_vv h hG ml_X3_177 (c_X3_count (j := 5) hs hk (by decide)) (ci := 3) rfl rfl rfl (hs.1 _ _ _ (by show _ ∧ _; exact ⟨by first | assumption | rfl | omega, by first | assumption | rfl | omega⟩)) rfl rfl rfl rfl ⟨Nat.le_refl _, Nat.le_refl _⟩ rfl dX3_setUpCall_41 ?_
        refine ca_aload_nr h dX3_setUpCall_44 rfl ?_
        refine ca_iload_n h dX3_setUpCall_45 rfl ?_
        refine pi_X3_181 h (hs.1 _ _ _ (by show _ ∧ _; exact ⟨by first | assumption | rfl | omega, by first | assumption | rfl | omega⟩)) dX3_setUpCall_46 ?_
        refine ca_aload_nr h dX3_setUpCall_49 rfl ?_
        refine ca_iload h dX3_setUpCall_50 rfl ?_
        refine ca_vv h hG ml_X3_184 (c_X2_beginToTalk hs hk (by omega)) (ci := 2) rfl rfl rfl (hs.1 _ _ _ (by show _ ∧ _; exact ⟨by first | assumption | rfl | omega, by first | assumption | rfl | omega⟩)) rfl rfl rfl rfl ⟨Nat.le_refl _, Nat.le_refl _⟩ rfl dX3_setUpCall_52 ?_
        refine ca_iload h dX3_setUpCall_55 rfl ?_
        refine ca_ireturn h hR rfl dX3_setUpCall_57 ?_
        have e9 : k_su (μ k) i d s = _ := if_neg c_30
        rw [if_neg c_36] at e9
        exact ⟨by rw [e9], rfl, by rw [e9] <;> simp only [ch_st_nw, up_s, up_up]⟩
  ·
    refine ca_iload_n h dX3_setUpCall_8 rfl ?_
    refine ca_goto (tgt := 25) h dX3_setUpCall_9 (by decide) ?_
    have ec : k_suc (μ k) i s = s := by unfold k_suc; rw [if_pos (bI_n0.mp c_5)]
    refine ca_top ec.symm ?_
    refine ca_istore h dX3_setUpCall_25 rfl ?_
    refine ca_iload h dX3_setUpCall_27 rfl ?_
    refine ca_iconst h dX3_setUpCall_29 ik_m1 ?_
    refine ca_icmp_eq (tgt := 58) h dX3_setUpCall_30 (by decide) (fun c_30 => ?_) (fun c_30 => ?_)
    ·
      refine ca_aload_nr h dX3_setUpCall_58 rfl ?_
      refine ca_iload_n h dX3_setUpCall_59 rfl ?_
      refine ca_vi h hG ml_X3_187 (c_X3_hasQueuePlace hs hk (by assumption)) (ci := 3) rfl rfl rfl (hs.1 _ _ _ (by show _ ∧ _; exact ⟨by first | assumption | rfl | omega, by first | assumption | rfl | omega⟩)) rfl rfl rfl rfl ⟨Nat.le_refl _, Nat.le_refl _⟩ rfl dX3_setUpCall_60 ?_
      refine ca_if_eq (tgt := 83) h dX3_setUpCall_63 (by decide) (fun c_63 => ?_) (fun c_63 => ?_)
      ·
        refine ca_aload_nr h dX3_setUpCall_83 rfl ?_
        refine ca_iconst h dX3_setUpCall_84 ik_4 ?_
        refine ca_vv h hG ml_X3_177 (c_X3_count (j := 4) hs hk (by decide)) (ci := 3) rfl rfl rfl (hs.1 _ _ _ (by show _ ∧ _; exact ⟨by first | assumption | rfl | omega, by first | assumption | rfl | omega⟩)) rfl rfl rfl rfl ⟨Nat.le_refl _, Nat.le_refl _⟩ rfl dX3_setUpCall_85 ?_
        refine ca_bipush h dX3_setUpCall_88 bk_m5 ?_
        refine ca_ireturn h hR rfl dX3_setUpCall_90 ?_
        have e9 : k_su (μ k) i d s = _ := if_pos c_30
        rw [if_neg (by rw [bI_0.mp c_63]; decide)] at e9
        exact ⟨by rw [e9], rfl, by rw [e9] <;> simp only [ch_st_nw, up_s, up_up]⟩
      ·
        refine ca_aload_nr h dX3_setUpCall_66 rfl ?_
        refine ca_iload_n h dX3_setUpCall_67 rfl ?_
        refine pi_X3_181 h (hs.1 _ _ _ (by show _ ∧ _; exact ⟨by first | assumption | rfl | omega, by first | assumption | rfl | omega⟩)) dX3_setUpCall_68 ?_
        refine ca_aload_nr h dX3_setUpCall_71 rfl ?_
        refine ca_iload_n h dX3_setUpCall_72 rfl ?_
        refine ca_aload_nr h dX3_setUpCall_73 rfl ?_
        refine gi_X3_79 h (hs.1 _ _ _ (by show _ ∧ _; exact ⟨by first | assumption | rfl | omega, by first | assumption | rfl | omega⟩)) dX3_setUpCall_74 ?_
        refine ca_vv h hG ml_X3_190 (c_X2_waitForSetUp hs hk (by omega)) (ci := 2) rfl rfl rfl (hs.1 _ _ _ (by show _ ∧ _; exact ⟨by first | assumption | rfl | omega, by first | assumption | rfl | omega⟩)) rfl rfl rfl rfl ⟨Nat.le_refl _, Nat.le_refl _⟩ rfl dX3_setUpCall_77 ?_
        refine ca_bipush h dX3_setUpCall_80 bk_m3 ?_
        refine ca_ireturn h hR rfl dX3_setUpCall_82 ?_
        have e9 : k_su (μ k) i d s = _ := if_pos c_30
        rw [if_pos (bI_n0.mp c_63)] at e9
        exact ⟨by rw [e9], rfl, by rw [e9] <;> simp only [ch_st_nw, up_s, up_up]⟩
    ·
      refine ca_iload h dX3_setUpCall_33 rfl ?_
      refine ca_iload_n h dX3_setUpCall_35 rfl ?_
      refine ca_icmp_eq (tgt := 44) h dX3_setUpCall_36 (by decide) (fun c_36 => ?_) (fun c_36 => ?_)
      ·
        refine ca_aload_nr h dX3_setUpCall_44 rfl ?_
        refine ca_iload_n h dX3_setUpCall_45 rfl ?_
        refine pi_X3_181 h (hs.1 _ _ _ (by show _ ∧ _; exact ⟨by first | assumption | rfl | omega, by first | assumption | rfl | omega⟩)) dX3_setUpCall_46 ?_
        refine ca_aload_nr h dX3_setUpCall_49 rfl ?_
        refine ca_iload h dX3_setUpCall_50 rfl ?_
        refine ca_vv h hG ml_X3_184 (c_X2_beginToTalk hs hk (by omega)) (ci := 2) rfl rfl rfl (hs.1 _ _ _ (by show _ ∧ _; exact ⟨by first | assumption | rfl | omega, by first | assumption | rfl | omega⟩)) rfl rfl rfl rfl ⟨Nat.le_refl _, Nat.le_refl _⟩ rfl dX3_setUpCall_52 ?_
        refine ca_iload h dX3_setUpCall_55 rfl ?_
        refine ca_ireturn h hR rfl dX3_setUpCall_57 ?_
        have e9 : k_su (μ k) i d s = _ := if_neg c_30
        rw [if_pos c_36] at e9
        exact ⟨by rw [e9], rfl, by rw [e9] <;> simp only [ch_st_nw, up_s, up_up]⟩
      ·
        refine ca_aload_nr h dX3_setUpCall_39 rfl ?_
        refine ca_iconst h dX3_setUpCall_40 ik_5 ?_
        refine ca_vv h hG ml_X3_177 (c_X3_count (j := 5) hs hk (by decide)) (ci := 3) rfl rfl rfl (hs.1 _ _ _ (by show _ ∧ _; exact ⟨by first | assumption | rfl | omega, by first | assumption | rfl | omega⟩)) rfl rfl rfl rfl ⟨Nat.le_refl _, Nat.le_refl _⟩ rfl dX3_setUpCall_41 ?_
        refine ca_aload_nr h dX3_setUpCall_44 rfl ?_
        refine ca_iload_n h dX3_setUpCall_45 rfl ?_
        refine pi_X3_181 h (hs.1 _ _ _ (by show _ ∧ _; exact ⟨by first | assumption | rfl | omega, by first | assumption | rfl | omega⟩)) dX3_setUpCall_46 ?_
        refine ca_aload_nr h dX3_setUpCall_49 rfl ?_
        refine ca_iload h dX3_setUpCall_50 rfl ?_
        refine ca_vv h hG ml_X3_184 (c_X2_beginToTalk hs hk (by omega)) (ci := 2) rfl rfl rfl (hs.1 _ _ _ (by show _ ∧ _; exact ⟨by first | assumption | rfl | omega, by first | assumption | rfl | omega⟩)) rfl rfl rfl rfl ⟨Nat.le_refl _, Nat.le_refl _⟩ rfl dX3_setUpCall_52 ?_
        refine ca_iload h dX3_setUpCall_55 rfl ?_
        refine ca_ireturn h hR rfl dX3_setUpCall_57 ?_
        have e9 : k_su (μ k) i d s = _ := if_neg c_30
        rw [if_neg c_36] at e9
        exact ⟨by rw [e9], rfl, by rw [e9] <;> simp only [ch_st_nw, up_s, up_up]⟩
