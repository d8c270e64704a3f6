/-! numbers, words, the end of what is said -/
theorem nI_inj {a b : Nat} (ha : a < 2 ^ 31) (hb : b < 2 ^ 31) (h : nI a = nI b) : a = b := by
  have := congrArg Int32.toNatClampNeg h
  rwa [nI_clamp ha, nI_clamp hb] at this
def p_bd : List Nat → List Int32
  | [] => []
  | v :: vs => 32 :: (p_D v ++ p_bd vs)
theorem p_ns_bd : ∀ vs, p_ns vs = p_bd vs ++ [59]
  | [] => rfl
  | v :: vs => by
    show 32 :: (p_D v ++ p_ns vs) = 32 :: (p_D v ++ p_bd vs) ++ [59]
    rw [p_ns_bd vs]; simp
theorem p_bd_s (x : Nat) : ∀ vs, p_bd (vs ++ [x]) = p_bd vs ++ (32 :: p_D x)
  | [] => by show 32 :: (p_D x ++ []) = [] ++ _; simp
  | v :: vs => by
    show 32 :: (p_D v ++ p_bd (vs ++ [x])) = 32 :: (p_D v ++ p_bd vs) ++ _
    rw [p_bd_s x vs]; simp
theorem p_rs (v : Nat → Nat) (n : Nat) : p_bd ((List.range (n + 1)).map v) = p_bd ((List.range n).map v) ++ (32 :: p_D (v n)) := by
  rw [List.range_succ, List.map_append, List.map_singleton, p_bd_s]
theorem p_w_s (a n : Nat) (h : n < k_len a) : (List.range (n + 1)).map (k_chr a) = (List.range n).map (k_chr a) ++ [k_chr a n] := by
  rw [List.range_succ, List.map_append, List.map_singleton]
/-- said and ended: the buffer holds it -/
def o_en (L : List Int32) (S : ch_S) (μ : ch_M) : Option Value → ch_S → ch_M → Prop := fun v' S' μ' => v' = some (.int (nI L.length)) ∧ S' = S ∧ o_wr μ μ' ∧ ∃ M, L.length ≤ M ∧ M ≤ 700 ∧ μ' 15 12 0 0 = nI M ∧ ∀ i, i < L.length → μ' 15 13 0 i = L.getD i 0
theorem p_D_len (v : Nat) : (p_D v).length ≤ 3 := by unfold p_D; split; · simp
                                                     split <;> simp
set_option maxHeartbeats 200000 in
theorem c_L_number1 {l : Launch} {E : ch_E} {S : ch_S} {μ : ch_M} {L : List Int32} {v : Nat} (hs : ch_Std E S) (hw19 : S.2.1 19 46 0) (hW : o_w L μ) (hL : L.length < 50000) (hv : v < 10) : ch_C E l yL_number cL_number 4 none 4 0 0 S μ [.ref (S.1 15 11 0), .ref (S.1 19 46 0), .int (nI v)] (o_sy (L ++ p_D v) S μ) := by
  refine ch_enter rfl rfl ?_
  intro X hl0 h hG hR hnm
  have h : ch_H X E RL cL_number 4 := h
  show ch_W X E 4 S μ 0 0 0 [(0, .ref (S.1 15 11 0)), (1, .ref (S.1 19 46 0)), (2, .int (nI v))] []
  refine ca_iconst h dL_number_0 ik_1 ?_
  refine ca_istore_n h dL_number_1 rfl ?_
  refine ca_iload_n h dL_number_2 rfl ?_
  refine ca_iload_n h dL_number_3 rfl ?_
  refine ca_bipush h dL_number_4 bk_10 ?_
  refine ca_idiv h dL_number_6 (by decide) ?_
  refine ca_top (y := nI (v / 10)) (show nI v / nI 10 = _ from pk_div (by omega) (by decide) (by decide)) ?_
  refine ca_icmp_gt (tgt := 18) h dL_number_7 (by decide) (fun c_7 => ?_) (fun c_7 => ?_)
  ·
    refine ca_iload_n h dL_number_18 rfl ?_
    refine ca_if_le (tgt := 44) h dL_number_19 (by decide) (fun c_19 => ?_) (fun c_19 => ?_)
    · exact absurd (by decide) c_19
    ·
      refine ca_aload_nr h dL_number_22 rfl ?_
      refine ca_aload_nr h dL_number_23 rfl ?_
      refine ca_bipush h dL_number_24 bk_48 ?_
      refine ca_iload_n h dL_number_26 rfl ?_
      refine ca_iload_n h dL_number_27 rfl ?_
      refine ca_idiv h dL_number_28 (by decide) ?_
      refine ca_top (y := nI (v / 1)) (show nI v / nI 1 = _ from pk_div (by omega) (by decide) (by decide)) ?_
      refine ca_bipush h dL_number_29 bk_10 ?_
      refine ca_irem h dL_number_31 (by decide) ?_
      refine ca_top (y := nI (v / 1 % 10)) (show nI (v / 1) - nI (v / 1) / nI 10 * nI 10 = _ from nI_mod (by omega) (by decide) (by decide)) ?_
      refine ca_iadd h dL_number_32 ?_
      refine ca_top (y := nI (48 + v)) (show nI 48 + nI (v / 1 % 10) = nI (48 + v) by rw [nI_add]; try (congr 1; omega)) ?_
      refine oa_S h hG ms_L_14 (c_L_add hs hw19 hW (b := 48 + v) (by omega) (by first | omega | (simp only [List.length_append, List.length_cons, List.length_nil]; omega))) rfl rfl rfl rfl ⟨Nat.le_refl _, Nat.le_refl _⟩ rfl dL_number_33 ?_
      intro v' S1 μ1 hp
      obtain ⟨rfl, hS1, hW1, hr1⟩ := hp
      replace hS1 := hS1.symm
      subst hS1
      refine ca_iload_n h dL_number_36 rfl ?_
      refine ca_bipush h dL_number_37 bk_10 ?_
      refine ca_idiv h dL_number_39 (by decide) ?_
      refine ca_top (y := 0) (show (1 : Int32) / 10 = 0 by decide) ?_
      refine ca_istore_n h dL_number_40 rfl ?_
      refine ca_goto (tgt := 18) h dL_number_41 (by decide) ?_
      refine ca_iload_n h dL_number_18 rfl ?_
      refine ca_if_le (tgt := 44) h dL_number_19 (by decide) (fun c_19 => ?_) (fun c_19 => ?_)
      ·
        refine ca_vreturn h hR dL_number_44 ?_
        have e : L ++ p_D v = (L ++ [nI (48 + v)]) := by
          unfold p_D
          rw [if_pos (by omega)]
        rw [e]
        exact ⟨rfl, rfl, hW1, hr1⟩
      · exact absurd c_19 (by decide)
  · exact absurd (nI_lt (show v / 10 < 1 by omega) (by decide)) c_7
set_option maxHeartbeats 200000 in
theorem c_L_number2 {l : Launch} {E : ch_E} {S : ch_S} {μ : ch_M} {L : List Int32} {v : Nat} (hs : ch_Std E S) (hw19 : S.2.1 19 46 0) (hW : o_w L μ) (hL : L.length < 50000) (hv : v < 100) (hv2 : ¬ v < 10) : ch_C E l yL_number cL_number 4 none 4 0 0 S μ [.ref (S.1 15 11 0), .ref (S.1 19 46 0), .int (nI v)] (o_sy (L ++ p_D v) S μ) := by
  refine ch_enter rfl rfl ?_
  intro X hl0 h hG hR hnm
  have h : ch_H X E RL cL_number 4 := h
  show ch_W X E 4 S μ 0 0 0 [(0, .ref (S.1 15 11 0)), (1, .ref (S.1 19 46 0)), (2, .int (nI v))] []
  refine ca_iconst h dL_number_0 ik_1 ?_
  refine ca_istore_n h dL_number_1 rfl ?_
  refine ca_iload_n h dL_number_2 rfl ?_
  refine ca_iload_n h dL_number_3 rfl ?_
  refine ca_bipush h dL_number_4 bk_10 ?_
  refine ca_idiv h dL_number_6 (by decide) ?_
  refine ca_top (y := nI (v / 10)) (show nI v / nI 10 = _ from pk_div (by omega) (by decide) (by decide)) ?_
  refine ca_icmp_gt (tgt := 18) h dL_number_7 (by decide) (fun c_7 => ?_) (fun c_7 => ?_)
  · exact absurd c_7 (nI_nlt (show 1 ≤ v / 10 by omega) (by omega))
  ·
    refine ca_iload_n h dL_number_10 rfl ?_
    refine ca_bipush h dL_number_11 bk_10 ?_
    refine ca_imul h dL_number_13 ?_
    refine ca_top (y := 10) (show (1 : Int32) * 10 = 10 by decide) ?_
    refine ca_istore_n h dL_number_14 rfl ?_
    refine ca_goto (tgt := 2) h dL_number_15 (by decide) ?_
    refine ca_iload_n h dL_number_2 rfl ?_
    refine ca_iload_n h dL_number_3 rfl ?_
    refine ca_bipush h dL_number_4 bk_10 ?_
    refine ca_idiv h dL_number_6 (by decide) ?_
    refine ca_top (y := nI (v / 10)) (show nI v / nI 10 = _ from pk_div (by omega) (by decide) (by decide)) ?_
    refine ca_icmp_gt (tgt := 18) h dL_number_7 (by decide) (fun c_7 => ?_) (fun c_7 => ?_)
    ·
      refine ca_iload_n h dL_number_18 rfl ?_
      refine ca_if_le (tgt := 44) h dL_number_19 (by decide) (fun c_19 => ?_) (fun c_19 => ?_)
      · exact absurd (by decide) c_19
      ·
        refine ca_aload_nr h dL_number_22 rfl ?_
        refine ca_aload_nr h dL_number_23 rfl ?_
        refine ca_bipush h dL_number_24 bk_48 ?_
        refine ca_iload_n h dL_number_26 rfl ?_
        refine ca_iload_n h dL_number_27 rfl ?_
        refine ca_idiv h dL_number_28 (by decide) ?_
        refine ca_top (y := nI (v / 10)) (show nI v / nI 10 = _ from pk_div (by omega) (by decide) (by decide)) ?_
        refine ca_bipush h dL_number_29 bk_10 ?_
        refine ca_irem h dL_number_31 (by decide) ?_
        refine ca_top (y := nI (v / 10 % 10)) (show nI (v / 10) - nI (v / 10) / nI 10 * nI 10 = _ from nI_mod (by omega) (by decide) (by decide)) ?_
        refine ca_iadd h dL_number_32 ?_
        refine ca_top (y := nI (48 + v / 10)) (show nI 48 + nI (v / 10 % 10) = nI (48 + v / 10) by rw [nI_add]; try (congr 1; omega)) ?_
        refine oa_S h hG ms_L_14 (c_L_add hs hw19 hW (b := 48 + v / 10) (by omega) (by first | omega | (simp only [List.length_append, List.length_cons, List.length_nil]; omega))) rfl rfl rfl rfl ⟨Nat.le_refl _, Nat.le_refl _⟩ rfl dL_number_33 ?_
        intro v' S1 μ1 hp
        obtain ⟨rfl, hS1, hW1, hr1⟩ := hp
        replace hS1 := hS1.symm
        subst hS1
        refine ca_iload_n h dL_number_36 rfl ?_
        refine ca_bipush h dL_number_37 bk_10 ?_
        refine ca_idiv h dL_number_39 (by decide) ?_
        refine ca_top (y := 1) (show (10 : Int32) / 10 = 1 by decide) ?_
        refine ca_istore_n h dL_number_40 rfl ?_
        refine ca_goto (tgt := 18) h dL_number_41 (by decide) ?_
        refine ca_iload_n h dL_number_18 rfl ?_
        refine ca_if_le (tgt := 44) h dL_number_19 (by decide) (fun c_19 => ?_) (fun c_19 => ?_)
        · exact absurd (by decide) c_19
        ·
          refine ca_aload_nr h dL_number_22 rfl ?_
          refine ca_aload_nr h dL_number_23 rfl ?_
          refine ca_bipush h dL_number_24 bk_48 ?_
          refine ca_iload_n h dL_number_26 rfl ?_
          refine ca_iload_n h dL_number_27 rfl ?_
          refine ca_idiv h dL_number_28 (by decide) ?_
          refine ca_top (y := nI (v / 1)) (show nI v / nI 1 = _ from pk_div (by omega) (by decide) (by decide)) ?_
          refine ca_bipush h dL_number_29 bk_10 ?_
          refine ca_irem h dL_number_31 (by decide) ?_
          refine ca_top (y := nI (v / 1 % 10)) (show nI (v / 1) - nI (v / 1) / nI 10 * nI 10 = _ from nI_mod (by omega) (by decide) (by decide)) ?_
          refine ca_iadd h dL_number_32 ?_
          refine ca_top (y := nI (48 + v % 10)) (show nI 48 + nI (v / 1 % 10) = nI (48 + v % 10) by rw [nI_add]; try (congr 1; omega)) ?_
          refine oa_S h hG ms_L_14 (c_L_add hs hw19 hW1 (b := 48 + v % 10) (by omega) (by first | omega | (simp only [List.length_append, List.length_cons, List.length_nil]; omega))) rfl rfl rfl rfl ⟨Nat.le_refl _, Nat.le_refl _⟩ rfl dL_number_33 ?_
          intro v' S1 μ2 hp
          obtain ⟨rfl, hS1, hW2, hr2⟩ := hp
          replace hS1 := hS1.symm
          subst hS1
          refine ca_iload_n h dL_number_36 rfl ?_
          refine ca_bipush h dL_number_37 bk_10 ?_
          refine ca_idiv h dL_number_39 (by decide) ?_
          refine ca_top (y := 0) (show (1 : Int32) / 10 = 0 by decide) ?_
          refine ca_istore_n h dL_number_40 rfl ?_
          refine ca_goto (tgt := 18) h dL_number_41 (by decide) ?_
          refine ca_iload_n h dL_number_18 rfl ?_
          refine ca_if_le (tgt := 44) h dL_number_19 (by decide) (fun c_19 => ?_) (fun c_19 => ?_)
          ·
            refine ca_vreturn h hR dL_number_44 ?_
            have e : L ++ p_D v = ((L ++ [nI (48 + v / 10)]) ++ [nI (48 + v % 10)]) := by
              unfold p_D
              rw [if_neg (by omega), if_pos (by omega)]; simp
            rw [e]
            exact ⟨rfl, rfl, hW2, (o_wr_tr hr1 hr2)⟩
          · exact absurd c_19 (by decide)
    · exact absurd (nI_lt (show v / 10 < 10 by omega) (by decide)) c_7
set_option maxHeartbeats 200000 in
theorem c_L_number3 {l : Launch} {E : ch_E} {S : ch_S} {μ : ch_M} {L : List Int32} {v : Nat} (hs : ch_Std E S) (hw19 : S.2.1 19 46 0) (hW : o_w L μ) (hL : L.length < 50000) (hv : v < 1000) (hv2 : ¬ v < 100) : ch_C E l yL_number cL_number 4 none 4 0 0 S μ [.ref (S.1 15 11 0), .ref (S.1 19 46 0), .int (nI v)] (o_sy (L ++ p_D v) S μ) := by
  refine ch_enter rfl rfl ?_
  intro X hl0 h hG hR hnm
  have h : ch_H X E RL cL_number 4 := h
  show ch_W X E 4 S μ 0 0 0 [(0, .ref (S.1 15 11 0)), (1, .ref (S.1 19 46 0)), (2, .int (nI v))] []
  refine ca_iconst h dL_number_0 ik_1 ?_
  refine ca_istore_n h dL_number_1 rfl ?_
  refine ca_iload_n h dL_number_2 rfl ?_
  refine ca_iload_n h dL_number_3 rfl ?_
  refine ca_bipush h dL_number_4 bk_10 ?_
  refine ca_idiv h dL_number_6 (by decide) ?_
  refine ca_top (y := nI (v / 10)) (show nI v / nI 10 = _ from pk_div (by omega) (by decide) (by decide)) ?_
  refine ca_icmp_gt (tgt := 18) h dL_number_7 (by decide) (fun c_7 => ?_) (fun c_7 => ?_)
  · exact absurd c_7 (nI_nlt (show 1 ≤ v / 10 by omega) (by omega))
  ·
    refine ca_iload_n h dL_number_10 rfl ?_
    refine ca_bipush h dL_number_11 bk_10 ?_
    refine ca_imul h dL_number_13 ?_
    refine ca_top (y := 10) (show (1 : Int32) * 10 = 10 by decide) ?_
    refine ca_istore_n h dL_number_14 rfl ?_
    refine ca_goto (tgt := 2) h dL_number_15 (by decide) ?_
    refine ca_iload_n h dL_number_2 rfl ?_
    refine ca_iload_n h dL_number_3 rfl ?_
    refine ca_bipush h dL_number_4 bk_10 ?_
    refine ca_idiv h dL_number_6 (by decide) ?_
    refine ca_top (y := nI (v / 10)) (show nI v / nI 10 = _ from pk_div (by omega) (by decide) (by decide)) ?_
    refine ca_icmp_gt (tgt := 18) h dL_number_7 (by decide) (fun c_7 => ?_) (fun c_7 => ?_)
    · exact absurd c_7 (nI_nlt (show 10 ≤ v / 10 by omega) (by omega))
    ·
      refine ca_iload_n h dL_number_10 rfl ?_
      refine ca_bipush h dL_number_11 bk_10 ?_
      refine ca_imul h dL_number_13 ?_
      refine ca_top (y := 100) (show (10 : Int32) * 10 = 100 by decide) ?_
      refine ca_istore_n h dL_number_14 rfl ?_
      refine ca_goto (tgt := 2) h dL_number_15 (by decide) ?_
      refine ca_iload_n h dL_number_2 rfl ?_
      refine ca_iload_n h dL_number_3 rfl ?_
      refine ca_bipush h dL_number_4 bk_10 ?_
      refine ca_idiv h dL_number_6 (by decide) ?_
      refine ca_top (y := nI (v / 10)) (show nI v / nI 10 = _ from pk_div (by omega) (by decide) (by decide)) ?_
      refine ca_icmp_gt (tgt := 18) h dL_number_7 (by decide) (fun c_7 => ?_) (fun c_7 => ?_)
      ·
        refine ca_iload_n h dL_number_18 rfl ?_
        refine ca_if_le (tgt := 44) h dL_number_19 (by decide) (fun c_19 => ?_) (fun c_19 => ?_)
        · exact absurd (by decide) c_19
        ·
          refine ca_aload_nr h dL_number_22 rfl ?_
          refine ca_aload_nr h dL_number_23 rfl ?_
          refine ca_bipush h dL_number_24 bk_48 ?_
          refine ca_iload_n h dL_number_26 rfl ?_
          refine ca_iload_n h dL_number_27 rfl ?_
          refine ca_idiv h dL_number_28 (by decide) ?_
          refine ca_top (y := nI (v / 100)) (show nI v / nI 100 = _ from pk_div (by omega) (by decide) (by decide)) ?_
          refine ca_bipush h dL_number_29 bk_10 ?_
          refine ca_irem h dL_number_31 (by decide) ?_
          refine ca_top (y := nI (v / 100 % 10)) (show nI (v / 100) - nI (v / 100) / nI 10 * nI 10 = _ from nI_mod (by omega) (by decide) (by decide)) ?_
          refine ca_iadd h dL_number_32 ?_
          refine ca_top (y := nI (48 + v / 100)) (show nI 48 + nI (v / 100 % 10) = nI (48 + v / 100) by rw [nI_add]; try (congr 1; omega)) ?_
          refine oa_S h hG ms_L_14 (c_L_add hs hw19 hW (b := 48 + v / 100) (by omega) (by first | omega | (simp only [List.length_append, List.length_cons, List.length_nil]; omega))) rfl rfl rfl rfl ⟨Nat.le_refl _, Nat.le_refl _⟩ rfl dL_number_33 ?_
          intro v' S1 μ1 hp
          obtain ⟨rfl, hS1, hW1, hr1⟩ := hp
          replace hS1 := hS1.symm
          subst hS1
          refine ca_iload_n h dL_number_36 rfl ?_
          refine ca_bipush h dL_number_37 bk_10 ?_
          refine ca_idiv h dL_number_39 (by decide) ?_
          refine ca_top (y := 10) (show (100 : Int32) / 10 = 10 by decide) ?_
          refine ca_istore_n h dL_number_40 rfl ?_
          refine ca_goto (tgt := 18) h dL_number_41 (by decide) ?_
          refine ca_iload_n h dL_number_18 rfl ?_
          refine ca_if_le (tgt := 44) h dL_number_19 (by decide) (fun c_19 => ?_) (fun c_19 => ?_)
          · exact absurd (by decide) c_19
          ·
            refine ca_aload_nr h dL_number_22 rfl ?_
            refine ca_aload_nr h dL_number_23 rfl ?_
            refine ca_bipush h dL_number_24 bk_48 ?_
            refine ca_iload_n h dL_number_26 rfl ?_
            refine ca_iload_n h dL_number_27 rfl ?_
            refine ca_idiv h dL_number_28 (by decide) ?_
            refine ca_top (y := nI (v / 10)) (show nI v / nI 10 = _ from pk_div (by omega) (by decide) (by decide)) ?_
            refine ca_bipush h dL_number_29 bk_10 ?_
            refine ca_irem h dL_number_31 (by decide) ?_
            refine ca_top (y := nI (v / 10 % 10)) (show nI (v / 10) - nI (v / 10) / nI 10 * nI 10 = _ from nI_mod (by omega) (by decide) (by decide)) ?_
            refine ca_iadd h dL_number_32 ?_
            refine ca_top (y := nI (48 + v / 10 % 10)) (show nI 48 + nI (v / 10 % 10) = nI (48 + v / 10 % 10) by rw [nI_add]; try (congr 1; omega)) ?_
            refine oa_S h hG ms_L_14 (c_L_add hs hw19 hW1 (b := 48 + v / 10 % 10) (by omega) (by first | omega | (simp only [List.length_append, List.length_cons, List.length_nil]; omega))) rfl rfl rfl rfl ⟨Nat.le_refl _, Nat.le_refl _⟩ rfl dL_number_33 ?_
            intro v' S1 μ2 hp
            obtain ⟨rfl, hS1, hW2, hr2⟩ := hp
            replace hS1 := hS1.symm
            subst hS1
            refine ca_iload_n h dL_number_36 rfl ?_
            refine ca_bipush h dL_number_37 bk_10 ?_
            refine ca_idiv h dL_number_39 (by decide) ?_
            refine ca_top (y := 1) (show (10 : Int32) / 10 = 1 by decide) ?_
            refine ca_istore_n h dL_number_40 rfl ?_
            refine ca_goto (tgt := 18) h dL_number_41 (by decide) ?_
            refine ca_iload_n h dL_number_18 rfl ?_
            refine ca_if_le (tgt := 44) h dL_number_19 (by decide) (fun c_19 => ?_) (fun c_19 => ?_)
            · exact absurd (by decide) c_19
            ·
              refine ca_aload_nr h dL_number_22 rfl ?_
              refine ca_aload_nr h dL_number_23 rfl ?_
              refine ca_bipush h dL_number_24 bk_48 ?_
              refine ca_iload_n h dL_number_26 rfl ?_
              refine ca_iload_n h dL_number_27 rfl ?_
              refine ca_idiv h dL_number_28 (by decide) ?_
              refine ca_top (y := nI (v / 1)) (show nI v / nI 1 = _ from pk_div (by omega) (by decide) (by decide)) ?_
              refine ca_bipush h dL_number_29 bk_10 ?_
              refine ca_irem h dL_number_31 (by decide) ?_
              refine ca_top (y := nI (v / 1 % 10)) (show nI (v / 1) - nI (v / 1) / nI 10 * nI 10 = _ from nI_mod (by omega) (by decide) (by decide)) ?_
              refine ca_iadd h dL_number_32 ?_
              refine ca_top (y := nI (48 + v % 10)) (show nI 48 + nI (v / 1 % 10) = nI (48 + v % 10) by rw [nI_add]; try (congr 1; omega)) ?_
              refine oa_S h hG ms_L_14 (c_L_add hs hw19 hW2 (b := 48 + v % 10) (by omega) (by first | omega | (simp only [List.length_append, List.length_cons, List.length_nil]; omega))) rfl rfl rfl rfl ⟨Nat.le_refl _, Nat.le_refl _⟩ rfl dL_number_33 ?_
              intro v' S1 μ3 hp
              obtain ⟨rfl, hS1, hW3, hr3⟩ := hp
              replace hS1 := hS1.symm
              subst hS1
              refine ca_iload_n h dL_number_36 rfl ?_
              refine ca_bipush h dL_number_37 bk_10 ?_
              refine ca_idiv h dL_number_39 (by decide) ?_
              refine ca_top (y := 0) (show (1 : Int32) / 10 = 0 by decide) ?_
              refine ca_istore_n h dL_number_40 rfl ?_
              refine ca_goto (tgt := 18) h dL_number_41 (by decide) ?_
              refine ca_iload_n h dL_number_18 rfl ?_
              refine ca_if_le (tgt := 44) h dL_number_19 (by decide) (fun c_19 => ?_) (fun c_19 => ?_)
              ·
                refine ca_vreturn h hR dL_number_44 ?_
                have e : L ++ p_D v = (((L ++ [nI (48 + v / 100)]) ++ [nI (48 + v / 10 % 10)]) ++ [nI (48 + v % 10)]) := by
                  unfold p_D
                  rw [if_neg (by omega), if_neg (by omega)]; simp
                rw [e]
                exact ⟨rfl, rfl, hW3, (o_wr_tr (o_wr_tr hr1 hr2) hr3)⟩
              · exact absurd c_19 (by decide)
      · exact absurd (nI_lt (show v / 10 < 100 by omega) (by decide)) c_7
theorem c_L_number {l : Launch} {E : ch_E} {S : ch_S} {μ : ch_M} {L : List Int32} {v : Nat} (hs : ch_Std E S) (hw19 : S.2.1 19 46 0) (hW : o_w L μ) (hL : L.length < 50000) (hv : v < 1000) : ch_C E l yL_number cL_number 4 none 4 0 0 S μ [.ref (S.1 15 11 0), .ref (S.1 19 46 0), .int (nI v)] (o_sy (L ++ p_D v) S μ) := by
  by_cases h1 : v < 10
  · exact c_L_number1 hs hw19 hW hL h1
  · by_cases h2 : v < 100
    · exact c_L_number2 hs hw19 hW hL h2 h1
    · exact c_L_number3 hs hw19 hW hL hv h2
