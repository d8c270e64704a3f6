/-! THE TEXT: bytes b of which e are read; a token from s to n of kind k -/
def t_at (b : Nat → Int32) (e i : Nat) : Int32 := if i < e then b i else -1
def t_kd (x : Int32) : Int32 := if x = -1 then 0 else if ¬ x < 97 ∧ ¬ 122 < x then 1 else if ¬ x < 48 ∧ ¬ 57 < x then 2 else if x = 32 then 3 else if x = 10 then 3 else 4
def t_k (b : Nat → Int32) (e i : Nat) : Int32 := t_kd (t_at b e i)
def t_rn (b : Nat → Int32) (e : Nat) (k : Int32) : Nat → Nat → Nat
  | 0, i => i
  | j + 1, i => if t_k b e i = k then t_rn b e k j (i + 1) else i
def t_e (q : ch_N) : Nat := Int32.toNatClampNeg (q 12 0 4)
def t_s (q : ch_N) : Nat := Int32.toNatClampNeg (q 12 0 5)
def t_n (q : ch_N) : Nat := Int32.toNatClampNeg (q 12 0 6)
def t_st (q : ch_N) (s n : Nat) (k : Int32) : ch_N := nw (nw (nw q 12 0 5 (nI s)) 12 0 6 (nI n)) 12 0 7 k
def t_ns (b : Nat → Int32) (e n : Nat) : Nat := t_rn b e 3 (e - n) n
def t_n0 (e s : Nat) : Nat := if e < s + 1 then e else s + 1
def t_nn (b : Nat → Int32) (e s : Nat) : Nat := if t_k b e s = 1 ∨ t_k b e s = 2 then t_rn b e (t_k b e s) (e - t_n0 e s) (t_n0 e s) else t_n0 e s
def t_adv (q : ch_N) : ch_N := if ¬ q 12 0 1 = 0 then q else t_st q (t_ns (q 13 0) (t_e q) (t_n q)) (t_nn (q 13 0) (t_e q) (t_ns (q 13 0) (t_e q) (t_n q))) (t_k (q 13 0) (t_e q) (t_ns (q 13 0) (t_e q) (t_n q)))
/-- the text before a token is read; with a token -/
def k_tn (q : ch_N) : Prop := q 12 0 4 = nI (t_e q) ∧ t_e q ≤ 700 ∧ q 12 0 6 = nI (t_n q) ∧ t_n q ≤ t_e q
def k_tx (q : ch_N) : Prop := k_tn q ∧ q 12 0 5 = nI (t_s q) ∧ t_s q ≤ t_n q
def t_is (q : ch_N) (a : Nat) : Bool := decide (q 12 0 1 = 0 ∧ t_n q - t_s q = k_len a ∧ ∀ i, i < k_len a → t_at (q 13 0) (t_e q) (t_s q + i) = k_chr a i)
def t_fail (q : ch_N) (c : Int32) : ch_N := if q 12 0 1 = 0 then nw q 12 0 1 c else q
def t_exp (q : ch_N) (a : Nat) : ch_N := if t_is q a = true then t_adv q else t_fail q 1
def t_num (q : ch_N) : Nat → Int32 := fun N => kf (fun i r => if r < 100000 then r * 10 + (t_at (q 13 0) (t_e q) (t_s q + i) - 48) else r) N 0
def t_sn (q : ch_N) (lo hi : Int32) : Int32 × ch_N := if ¬ q 12 0 1 = 0 then (lo, q) else if t_num q (t_n q - t_s q) < lo ∨ hi < t_num q (t_n q - t_s q) then (lo, t_fail q 2) else (t_num q (t_n q - t_s q), q)
def t_see (q : ch_N) (lo hi : Int32) : Int32 × ch_N := t_sn (if q 12 0 7 = 2 then q else t_fail q 1) lo hi
def t_take (q : ch_N) (lo hi : Int32) : Int32 × ch_N := ((t_see q lo hi).1, t_adv (t_see q lo hi).2)
def t_go (q : ch_N) : Bool := decide (q 12 0 1 = 0 ∧ q 12 0 5 < q 12 0 4)
def t_open (q : ch_N) (x : Int32) : ch_N := t_adv (nw (nw (nw q 12 0 4 x) 12 0 6 0) 12 0 1 0)
def t_close (q : ch_N) : ch_N := nw (nw q 12 0 2 (if q 12 0 1 = 0 then -1 else q 12 0 5)) 12 0 0 0
def t_app (q : ch_N) (w : Int32) : Nat → ch_N := fun N => kf (fun i q => nw (nw q 13 0 (Int32.toNatClampNeg (q 12 0 0)) (k_us w (24 - nI (8 * i)) &&& 255)) 12 0 0 (q 12 0 0 + 1)) N q
theorem t_app_s (q : ch_N) (w : Int32) (N : Nat) : t_app q w (N + 1) = nw (nw (t_app q w N) 13 0 (Int32.toNatClampNeg (t_app q w N 12 0 0)) (k_us w (24 - nI (8 * N)) &&& 255)) 12 0 0 (t_app q w N 12 0 0 + 1) := by unfold t_app; rw [kf_s]
theorem t_st_e (q : ch_N) (s n m : Nat) (k : Int32) : nw (t_st q s n k) 12 0 6 (nI m) = t_st q s m k := by
  funext a b c
  unfold t_st
  simp only [nw_at]
  by_cases h : a = 12 ∧ b = 0 ∧ c = 6
  · obtain ⟨rfl, rfl, rfl⟩ := h; simp
  · simp [h]
theorem t_st_at (q : ch_N) (s n : Nat) (k : Int32) (a b c : Nat) : t_st q s n k a b c = if a = 12 ∧ b = 0 ∧ c = 7 then k else if a = 12 ∧ b = 0 ∧ c = 6 then nI n else if a = 12 ∧ b = 0 ∧ c = 5 then nI s else q a b c := by
  unfold t_st
  simp only [nw_at]
theorem t_st_13 (q : ch_N) (s n : Nat) (k : Int32) : t_st q s n k 13 = q 13 := by
  unfold t_st
  rw [nw_k (by decide), nw_k (by decide), nw_k (by decide)]
theorem t_rn_le (b : Nat → Int32) (e : Nat) (k : Int32) : ∀ (j i : Nat), t_rn b e k j i ≤ i + j ∧ i ≤ t_rn b e k j i
  | 0, i => ⟨Nat.le_refl _, Nat.le_refl _⟩
  | j + 1, i => by
    unfold t_rn
    split
    · have := t_rn_le b e k j (i + 1); omega
    · omega
theorem t_ns_le {b : Nat → Int32} {e n : Nat} (h : n ≤ e) : t_ns b e n ≤ e ∧ n ≤ t_ns b e n := by
  have := t_rn_le b e 3 (e - n) n
  unfold t_ns; omega
theorem t_n0_le {e s : Nat} (h : s ≤ e) : t_n0 e s ≤ e ∧ s ≤ t_n0 e s := by unfold t_n0; split <;> omega
theorem t_nn_le {b : Nat → Int32} {e s : Nat} (h : s ≤ e) : t_nn b e s ≤ e ∧ s ≤ t_nn b e s := by
  have h1 := t_n0_le h
  unfold t_nn
  split
  · have := t_rn_le b e (t_k b e s) (e - t_n0 e s) (t_n0 e s); omega
  · exact h1
theorem t_fail_ne {q : ch_N} {c : Int32} (hc : ¬ c = 0) : ¬ (t_fail q c) 12 0 1 = 0 := by
  unfold t_fail
  split
  · rw [nw_at, if_pos ⟨rfl, rfl, rfl⟩]; exact hc
  · assumption
theorem t_fail_at {q : ch_N} {c : Int32} {j : Nat} (hj : j ≠ 1) : (t_fail q c) 12 0 j = q 12 0 j := by
  unfold t_fail
  split
  · rw [nw_at, if_neg (fun z => hj z.2.2)]
  · rfl
theorem t_fail_13 {q : ch_N} {c : Int32} : (t_fail q c) 13 = q 13 := by
  unfold t_fail
  split
  · exact nw_k (by decide)
  · rfl
theorem k_tx_fail {q : ch_N} {c : Int32} (h : k_tx q) : k_tx (t_fail q c) := by
  unfold k_tx k_tn t_e t_n t_s at *
  rw [t_fail_at (by decide), t_fail_at (by decide), t_fail_at (by decide)]
  exact h
theorem k_tx_adv0 {q : ch_N} (h : k_tn q) (h0 : q 12 0 1 = 0) : k_tx (t_adv q) := by
  unfold t_adv
  rw [if_neg (fun z => z h0)]
  obtain ⟨h1, h2, h3, h4⟩ := h
  have h5 := t_ns_le (b := q 13 0) h4
  have h6 := t_nn_le (b := q 13 0) h5.1
  generalize t_nn (q 13 0) (t_e q) (t_ns (q 13 0) (t_e q) (t_n q)) = n at *
  generalize t_k (q 13 0) (t_e q) (t_ns (q 13 0) (t_e q) (t_n q)) = k at *
  generalize t_ns (q 13 0) (t_e q) (t_n q) = s at *
  have e4 : t_st q s n k 12 0 4 = q 12 0 4 := by rw [t_st_at]; simp
  have e5 : t_st q s n k 12 0 5 = nI s := by rw [t_st_at]; simp
  have e6 : t_st q s n k 12 0 6 = nI n := by rw [t_st_at]; simp
  have a1 : t_e (t_st q s n k) = t_e q := by unfold t_e; rw [e4]
  have a2 : t_s (t_st q s n k) = s := by unfold t_s; rw [e5]; exact nI_clamp (by omega)
  have a3 : t_n (t_st q s n k) = n := by unfold t_n; rw [e6]; exact nI_clamp (by omega)
  unfold k_tx k_tn
  rw [a1, a2, a3, e4, e5, e6]
  exact ⟨⟨h1, h2, rfl, h6.1⟩, rfl, h6.2⟩
theorem k_tx_adv {q : ch_N} (h : k_tx q) : k_tx (t_adv q) := by
  by_cases h0 : q 12 0 1 = 0
  · exact k_tx_adv0 h.1 h0
  · unfold t_adv; rw [if_pos h0]; exact h
set_option maxHeartbeats 100000 in
theorem c_X10_byteAt {l : Launch} {E : ch_E} {S : ch_S} {μ : ch_M} (hs : ch_Std E S) {e i : Nat} (he : μ 15 12 0 4 = nI e) (h7 : e ≤ 700) (hi : i < 2 ^ 31) : ch_C E l yX10_byteAt cX10_byteAt 2 (some FieldType.int) 1 0 0 S μ [.ref (S.1 15 12 0), .int (nI i)] (ch_F (some (.int (t_at (μ 15 13 0) e i))) S (μ)) := by
  refine ch_enter rfl rfl ?_
  intro X hl0 h hG hR hnm
  have h : ch_H X E RX10 cX10_byteAt 2 := h
  show ch_W X E 2 S μ 0 0 0 [(0, .ref (S.1 15 12 0)), (1, .int (nI i))] []
  refine ca_iload_n h dX10_byteAt_0 rfl ?_
  refine ca_if_lt (tgt := 30) h dX10_byteAt_1 (by decide) (fun c_1 => ?_) (fun c_1 => ?_)
  · exact absurd c_1 (nI_pos hi)
  ·
    refine ca_iload_n h dX10_byteAt_4 rfl ?_
    refine ca_aload_nr h dX10_byteAt_5 rfl ?_
    refine gi_X10_22 h (hs.1 _ _ _ ⟨rfl, rfl⟩) dX10_byteAt_6 ?_
    refine ca_icmp_ge (tgt := 30) h dX10_byteAt_9 (by decide) (fun c_9 => ?_) (fun c_9 => ?_)
    ·
      refine ca_iconst h dX10_byteAt_30 ik_m1 ?_
      refine ca_ireturn h hR rfl dX10_byteAt_31 ?_
      exact ⟨by unfold t_at; rw [if_neg (fun z => c_9 (by rw [he]; exact nI_lt z (by omega)))], rfl, rfl⟩
    ·
      have hlt : i < e := by rw [he] at c_9; exact (nI_ltI hi (by omega)).mp c_9
      refine ca_iload_n h dX10_byteAt_12 rfl ?_
      refine ca_aload_nr h dX10_byteAt_13 rfl ?_
      refine gs_X10_15 h hs ⟨rfl, rfl⟩ dX10_byteAt_14 ?_
      refine ca_alen h rfl (by decide) (hs.1 _ _ _ ⟨rfl, rfl⟩) al_700 dX10_byteAt_17 ?_
      refine ca_icmp_ge (tgt := 30) h dX10_byteAt_18 (by decide) (fun c_18 => ?_) (fun c_18 => ?_)
      · exact absurd (nI_lt (b := 700) (by omega) (by decide)) c_18
      ·
        refine ca_aload_nr h dX10_byteAt_21 rfl ?_
        refine gs_X10_15 h hs ⟨rfl, rfl⟩ dX10_byteAt_22 ?_
        refine ca_iload_n h dX10_byteAt_25 rfl ?_
        refine ca_iald h rfl (hs.1 _ _ _ ⟨rfl, rfl⟩) (vp_in_nI (by omega) (by decide)) dX10_byteAt_26 ?_
        refine ca_goto (tgt := 31) h dX10_byteAt_27 (by decide) ?_
        refine ca_ireturn h hR rfl dX10_byteAt_31 ?_
        exact ⟨by unfold t_at; rw [if_pos hlt, nI_clamp hi], rfl, rfl⟩
set_option maxHeartbeats 100000 in
theorem c_X10_kindOf {l : Launch} {E : ch_E} {S : ch_S} {μ : ch_M} {x : Int32} : ch_C E l yX10_kindOf cX10_kindOf 1 (some FieldType.int) 1 0 0 S μ [.int x] (ch_F (some (.int (t_kd x))) S (μ)) := by
  refine ch_enter rfl rfl ?_
  intro X hl0 h hG hR hnm
  have h : ch_H X E RX10 cX10_kindOf 1 := h
  show ch_W X E 1 S μ 0 0 0 [(0, .int x)] []
  refine ca_iload_n h dX10_kindOf_0 rfl ?_
  refine ca_iconst h dX10_kindOf_1 ik_m1 ?_
  refine ca_icmp_ne (tgt := 7) h dX10_kindOf_2 (by decide) (fun c_2 => ?_) (fun c_2 => ?_)
  ·
    refine ca_iload_n h dX10_kindOf_7 rfl ?_
    refine ca_bipush h dX10_kindOf_8 bk_97 ?_
    refine ca_icmp_lt (tgt := 21) h dX10_kindOf_10 (by decide) (fun c_10 => ?_) (fun c_10 => ?_)
    ·
      refine ca_iload_n h dX10_kindOf_21 rfl ?_
      refine ca_bipush h dX10_kindOf_22 bk_48 ?_
      refine ca_icmp_lt (tgt := 35) h dX10_kindOf_24 (by decide) (fun c_24 => ?_) (fun c_24 => ?_)
      ·
        refine ca_iload_n h dX10_kindOf_35 rfl ?_
        refine ca_bipush h dX10_kindOf_36 bk_32 ?_
        refine ca_icmp_eq (tgt := 47) h dX10_kindOf_38 (by decide) (fun c_38 => ?_) (fun c_38 => ?_)
        ·
          refine ca_iconst h dX10_kindOf_47 ik_3 ?_
          refine ca_goto (tgt := 52) h dX10_kindOf_48 (by decide) ?_
          refine ca_ireturn h hR rfl dX10_kindOf_52 ?_
          exact ⟨by unfold t_kd; simp_all [-Int32.not_lt], rfl, rfl⟩
        ·
          refine ca_iload_n h dX10_kindOf_41 rfl ?_
          refine ca_bipush h dX10_kindOf_42 bk_10 ?_
          refine ca_icmp_ne (tgt := 51) h dX10_kindOf_44 (by decide) (fun c_44 => ?_) (fun c_44 => ?_)
          ·
            refine ca_iconst h dX10_kindOf_51 ik_4 ?_
            refine ca_ireturn h hR rfl dX10_kindOf_52 ?_
            exact ⟨by unfold t_kd; simp_all [-Int32.not_lt], rfl, rfl⟩
          ·
            refine ca_iconst h dX10_kindOf_47 ik_3 ?_
            refine ca_goto (tgt := 52) h dX10_kindOf_48 (by decide) ?_
            refine ca_ireturn h hR rfl dX10_kindOf_52 ?_
            exact ⟨by unfold t_kd; simp_all [-Int32.not_lt], rfl, rfl⟩
      ·
        refine ca_iload_n h dX10_kindOf_27 rfl ?_
        refine ca_bipush h dX10_kindOf_28 bk_57 ?_
        refine ca_icmp_gt (tgt := 35) h dX10_kindOf_30 (by decide) (fun c_30 => ?_) (fun c_30 => ?_)
        ·
          refine ca_iload_n h dX10_kindOf_35 rfl ?_
          refine ca_bipush h dX10_kindOf_36 bk_32 ?_
          refine ca_icmp_eq (tgt := 47) h dX10_kindOf_38 (by decide) (fun c_38 => ?_) (fun c_38 => ?_)
          ·
            refine ca_iconst h dX10_kindOf_47 ik_3 ?_
            refine ca_goto (tgt := 52) h dX10_kindOf_48 (by decide) ?_
            refine ca_ireturn h hR rfl dX10_kindOf_52 ?_
            exact ⟨by unfold t_kd; simp_all [-Int32.not_lt], rfl, rfl⟩
          ·
            refine ca_iload_n h dX10_kindOf_41 rfl ?_
            refine ca_bipush h dX10_kindOf_42 bk_10 ?_
            refine ca_icmp_ne (tgt := 51) h dX10_kindOf_44 (by decide) (fun c_44 => ?_) (fun c_44 => ?_)
            ·
              refine ca_iconst h dX10_kindOf_51 ik_4 ?_
              refine ca_ireturn h hR rfl dX10_kindOf_52 ?_
              exact ⟨by unfold t_kd; simp_all [-Int32.not_lt], rfl, rfl⟩
            ·
              refine ca_iconst h dX10_kindOf_47 ik_3 ?_
              refine ca_goto (tgt := 52) h dX10_kindOf_48 (by decide) ?_
              refine ca_ireturn h hR rfl dX10_kindOf_52 ?_
              exact ⟨by unfold t_kd; simp_all [-Int32.not_lt], rfl, rfl⟩
        ·
          refine ca_iconst h dX10_kindOf_33 ik_2 ?_
          refine ca_ireturn h hR rfl dX10_kindOf_34 ?_
          exact ⟨by unfold t_kd; simp_all [-Int32.not_lt], rfl, rfl⟩
    ·
      refine ca_iload_n h dX10_kindOf_13 rfl ?_
      refine ca_bipush h dX10_kindOf_14 bk_122 ?_
      refine ca_icmp_gt (tgt := 21) h dX10_kindOf_16 (by decide) (fun c_16 => ?_) (fun c_16 => ?_)
      ·
        refine ca_iload_n h dX10_kindOf_21 rfl ?_
        refine ca_bipush h dX10_kindOf_22 bk_48 ?_
        refine ca_icmp_lt (tgt := 35) h dX10_kindOf_24 (by decide) (fun c_24 => ?_) (fun c_24 => ?_)
        ·
          refine ca_iload_n h dX10_kindOf_35 rfl ?_
          refine ca_bipush h dX10_kindOf_36 bk_32 ?_
          refine ca_icmp_eq (tgt := 47) h dX10_kindOf_38 (by decide) (fun c_38 => ?_) (fun c_38 => ?_)
          ·
            refine ca_iconst h dX10_kindOf_47 ik_3 ?_
            refine ca_goto (tgt := 52) h dX10_kindOf_48 (by decide) ?_
            refine ca_ireturn h hR rfl dX10_kindOf_52 ?_
            exact ⟨by unfold t_kd; simp_all [-Int32.not_lt], rfl, rfl⟩
          ·
            refine ca_iload_n h dX10_kindOf_41 rfl ?_
            refine ca_bipush h dX10_kindOf_42 bk_10 ?_
            refine ca_icmp_ne (tgt := 51) h dX10_kindOf_44 (by decide) (fun c_44 => ?_) (fun c_44 => ?_)
            ·
              refine ca_iconst h dX10_kindOf_51 ik_4 ?_
              refine ca_ireturn h hR rfl dX10_kindOf_52 ?_
              exact ⟨by unfold t_kd; simp_all [-Int32.not_lt], rfl, rfl⟩
            ·
              refine ca_iconst h dX10_kindOf_47 ik_3 ?_
              refine ca_goto (tgt := 52) h dX10_kindOf_48 (by decide) ?_
              refine ca_ireturn h hR rfl dX10_kindOf_52 ?_
              exact ⟨by unfold t_kd; simp_all [-Int32.not_lt], rfl, rfl⟩
        ·
          refine ca_iload_n h dX10_kindOf_27 rfl ?_
          refine ca_bipush h dX10_kindOf_28 bk_57 ?_
          refine ca_icmp_gt (tgt := 35) h dX10_kindOf_30 (by decide) (fun c_30 => ?_) (fun c_30 => ?_)
          ·
            refine ca_iload_n h dX10_kindOf_35 rfl ?_
            refine ca_bipush h dX10_kindOf_36 bk_32 ?_
            refine ca_icmp_eq (tgt := 47) h dX10_kindOf_38 (by decide) (fun c_38 => ?_) (fun c_38 => ?_)
            ·
              refine ca_iconst h dX10_kindOf_47 ik_3 ?_
              refine ca_goto (tgt := 52) h dX10_kindOf_48 (by decide) ?_
              refine ca_ireturn h hR rfl dX10_kindOf_52 ?_
              exact ⟨by unfold t_kd; simp_all [-Int32.not_lt], rfl, rfl⟩
            ·
              refine ca_iload_n h dX10_kindOf_41 rfl ?_
              refine ca_bipush h dX10_kindOf_42 bk_10 ?_
              refine ca_icmp_ne (tgt := 51) h dX10_kindOf_44 (by decide) (fun c_44 => ?_) (fun c_44 => ?_)
              ·
                refine ca_iconst h dX10_kindOf_51 ik_4 ?_
                refine ca_ireturn h hR rfl dX10_kindOf_52 ?_
                exact ⟨by unfold t_kd; simp_all [-Int32.not_lt], rfl, rfl⟩
              ·
                refine ca_iconst h dX10_kindOf_47 ik_3 ?_
                refine ca_goto (tgt := 52) h dX10_kindOf_48 (by decide) ?_
                refine ca_ireturn h hR rfl dX10_kindOf_52 ?_
                exact ⟨by unfold t_kd; simp_all [-Int32.not_lt], rfl, rfl⟩
          ·
            refine ca_iconst h dX10_kindOf_33 ik_2 ?_
            refine ca_ireturn h hR rfl dX10_kindOf_34 ?_
            exact ⟨by unfold t_kd; simp_all [-Int32.not_lt], rfl, rfl⟩
      ·
        refine ca_iconst h dX10_kindOf_19 ik_1 ?_
        refine ca_ireturn h hR rfl dX10_kindOf_20 ?_
        exact ⟨by unfold t_kd; simp_all [-Int32.not_lt], rfl, rfl⟩
  ·
    refine ca_iconst h dX10_kindOf_5 ik_0 ?_
    refine ca_ireturn h hR rfl dX10_kindOf_6 ?_
    exact ⟨by unfold t_kd; simp_all [-Int32.not_lt], rfl, rfl⟩
set_option maxHeartbeats 100000 in
theorem c_X10_goesOn {l : Launch} {E : ch_E} {S : ch_S} {μ : ch_M} (hs : ch_Std E S) : ch_C E l yX10_goesOn cX10_goesOn 1 (some FieldType.boolean) 1 0 0 S μ [.ref (S.1 15 12 0)] (ch_F (some (.int (bI (t_go (μ 15))))) S (μ)) := by
  refine ch_enter rfl rfl ?_
  intro X hl0 h hG hR hnm
  have h : ch_H X E RX10 cX10_goesOn 1 := h
  show ch_W X E 1 S μ 0 0 0 [(0, .ref (S.1 15 12 0))] []
  refine ca_aload_nr h dX10_goesOn_0 rfl ?_
  refine gi_X10_28 h (hs.1 _ _ _ ⟨rfl, rfl⟩) dX10_goesOn_1 ?_
  refine ca_if_ne (tgt := 22) h dX10_goesOn_4 (by decide) (fun c_4 => ?_) (fun c_4 => ?_)
  ·
    refine ca_iconst h dX10_goesOn_22 ik_0 ?_
    refine ca_ireturn h hR rfl dX10_goesOn_23 ?_
    exact ⟨by simp [t_go, bI, c_4], rfl, rfl⟩
  ·
    refine ca_aload_nr h dX10_goesOn_7 rfl ?_
    refine gi_X10_34 h (hs.1 _ _ _ ⟨rfl, rfl⟩) dX10_goesOn_8 ?_
    refine ca_aload_nr h dX10_goesOn_11 rfl ?_
    refine gi_X10_22 h (hs.1 _ _ _ ⟨rfl, rfl⟩) dX10_goesOn_12 ?_
    refine ca_icmp_ge (tgt := 22) h dX10_goesOn_15 (by decide) (fun c_15 => ?_) (fun c_15 => ?_)
    ·
      refine ca_iconst h dX10_goesOn_22 ik_0 ?_
      refine ca_ireturn h hR rfl dX10_goesOn_23 ?_
      exact ⟨by simp [t_go, bI, c_4, c_15], rfl, rfl⟩
    ·
      refine ca_iconst h dX10_goesOn_18 ik_1 ?_
      refine ca_goto (tgt := 23) h dX10_goesOn_19 (by decide) ?_
      refine ca_ireturn h hR rfl dX10_goesOn_23 ?_
      exact ⟨by simp [t_go, bI, c_4, c_15], rfl, rfl⟩
set_option maxHeartbeats 100000 in
theorem c_X10_fail {l : Launch} {E : ch_E} {S : ch_S} {μ : ch_M} (hs : ch_Std E S) {c : Int32} : ch_C E l yX10_fail cX10_fail 2 none 1 0 0 S μ [.ref (S.1 15 12 0), .int c] (ch_F none S (up μ 15 (t_fail (μ 15) c))) := by
  refine ch_enter rfl rfl ?_
  intro X hl0 h hG hR hnm
  have h : ch_H X E RX10 cX10_fail 2 := h
  show ch_W X E 2 S μ 0 0 0 [(0, .ref (S.1 15 12 0)), (1, .int c)] []
  refine ca_aload_nr h dX10_fail_0 rfl ?_
  refine gi_X10_28 h (hs.1 _ _ _ ⟨rfl, rfl⟩) dX10_fail_1 ?_
  refine ca_if_ne (tgt := 12) h dX10_fail_4 (by decide) (fun c_4 => ?_) (fun c_4 => ?_)
  ·
    refine ca_vreturn h hR dX10_fail_12 ?_
    exact ⟨rfl, rfl, by unfold t_fail; rw [if_neg c_4]; rw [up_id]⟩
  ·
    refine ca_aload_nr h dX10_fail_7 rfl ?_
    refine ca_iload_n h dX10_fail_8 rfl ?_
    refine pi_X10_28 h (hs.1 _ _ _ ⟨rfl, rfl⟩) dX10_fail_9 ?_
    refine ca_vreturn h hR dX10_fail_12 ?_
    exact ⟨rfl, rfl, by unfold t_fail; rw [if_pos c_4]; rfl⟩
set_option maxHeartbeats 100000 in
theorem c_X10_advance {l : Launch} {E : ch_E} {S : ch_S} {μ : ch_M} (hs : ch_Std E S) (hq : k_tn (μ 15)) : ch_C E l yX10_advance cX10_advance 1 none 2 0 0 S μ [.ref (S.1 15 12 0)] (ch_F none S (up μ 15 (t_adv (μ 15)))) := by
  refine ch_enter rfl rfl ?_
  intro X hl0 h hG hR hnm
  have h : ch_H X E RX10 cX10_advance 1 := h
  obtain ⟨q1, q2, q3, q4⟩ := hq
  show ch_W X E 1 S μ 0 0 0 [(0, .ref (S.1 15 12 0))] []
  refine ca_aload_nr h dX10_advance_0 rfl ?_
  refine gi_X10_28 h (hs.1 _ _ _ ⟨rfl, rfl⟩) dX10_advance_1 ?_
  refine ca_if_eq (tgt := 8) h dX10_advance_4 (by decide) (fun c_4 => ?_) (fun c_4 => ?_)
  ·
    refine ca_aload_nr h dX10_advance_8 rfl ?_
    refine ca_aload_nr h dX10_advance_9 rfl ?_
    refine gi_X10_25 h (hs.1 _ _ _ ⟨rfl, rfl⟩) dX10_advance_10 ?_
    refine pi_X10_34 h (hs.1 _ _ _ ⟨rfl, rfl⟩) dX10_advance_13 ?_
    have K_55 : ∀ (s : Nat) (_ : s ≤ (t_e (μ 15))) (_ : t_ns (μ 15 13 0) (t_e (μ 15)) (t_n (μ 15)) = s), ch_W X E 1 S (up μ 15 (nw (μ 15) 12 0 5 (nI s))) 0 0 55 [(0, .ref (S.1 15 12 0))] [] := by
      intro s hse hsk
      refine ca_aload_nr h dX10_advance_55 rfl ?_
      refine ca_aload_nr h dX10_advance_56 rfl ?_
      refine gi_X10_34 h (hs.1 _ _ _ ⟨rfl, rfl⟩) dX10_advance_57 ?_
      refine ca_iconst h dX10_advance_60 ik_1 ?_
      refine ca_iadd h dX10_advance_61 ?_
      refine ca_aload_nr h dX10_advance_62 rfl ?_
      refine gi_X10_22 h (hs.1 _ _ _ ⟨rfl, rfl⟩) dX10_advance_63 ?_
      refine ca_mmin h hG rfl rfl rfl kw_953 kw_517 kw_15 kw_518 (Nat.le_of_ble_eq_true rfl) dX10_advance_66 ?_
      refine ca_top (show _ = nI (t_n0 (t_e (μ 15)) s) by
        have h9 : up μ 15 (nw (μ 15) 12 0 5 (nI s)) 15 12 0 4 = nI (t_e (μ 15)) := by simp [up_s, nw_at]; exact q1
        have h8 : up μ 15 (nw (μ 15) 12 0 5 (nI s)) 15 12 0 5 + 1 = nI (s + 1) := by simp only [up_s, nw_at]; exact nI_1 s
        rw [h9, h8]; unfold t_n0
        by_cases hz : (t_e (μ 15)) < s + 1
        · rw [if_pos hz, if_pos (nI_lt hz (by omega))]
        · rw [if_neg hz, if_neg (nI_nlt (by omega) (by omega))]) ?_
      refine pi_X10_25 h (hs.1 _ _ _ ⟨rfl, rfl⟩) dX10_advance_69 ?_
      refine ca_mem (μ'' := up μ 15 (nw (nw (μ 15) 12 0 5 (nI s)) 12 0 6 (nI (t_n0 (t_e (μ 15)) s)))) (by simp only [ch_st_nw, up_s, up_up]) ?_
      refine ca_aload_nr h dX10_advance_72 rfl ?_
      refine ca_aload_nr h dX10_advance_73 rfl ?_
      refine ca_aload_nr h dX10_advance_74 rfl ?_
      refine gi_X10_34 h (hs.1 _ _ _ ⟨rfl, rfl⟩) dX10_advance_75 ?_
      refine ca_top (show _ = nI s by simp [up_s, nw_at, t_st_at]) ?_
      refine ca_vi h hG ml_X10_37 (c_X10_byteAt hs (e := (t_e (μ 15))) (by simp [up_s, nw_at, ch_st_nw]; exact q1) q2 (by omega)) (ci := 10) rfl rfl rfl (hs.1 _ _ _ ⟨rfl, rfl⟩) rfl rfl rfl rfl ⟨Nat.le_refl _, Nat.le_refl _⟩ rfl dX10_advance_78 ?_
      refine ca_top (show _ = t_at (μ 15 13 0) (t_e (μ 15)) s by simp only [up_s]; rw [nw_k (by decide), nw_k (by decide)]) ?_
      refine ca_si h hG ms_X10_41 (c_X10_kindOf) rfl rfl rfl rfl ⟨Nat.le_refl _, Nat.le_refl _⟩ rfl dX10_advance_81 ?_
      refine pi_X10_50 h (hs.1 _ _ _ ⟨rfl, rfl⟩) dX10_advance_84 ?_
      refine ca_mem (μ'' := up μ 15 (t_st (μ 15) s (t_n0 (t_e (μ 15)) s) (t_k (μ 15 13 0) (t_e (μ 15)) s))) (by simp only [ch_st_nw, up_s, up_up]; rfl) ?_
      refine ca_aload_nr h dX10_advance_87 rfl ?_
      refine gi_X10_50 h (hs.1 _ _ _ ⟨rfl, rfl⟩) dX10_advance_88 ?_
      refine ca_iconst h dX10_advance_91 ik_1 ?_
      refine ca_icmp_eq (tgt := 103) h dX10_advance_92 (by decide) (fun c_92 => ?_) (fun c_92 => ?_)
      ·
        have loop_103 : ∀ (jj n : Nat), n + jj = (t_e (μ 15)) → ∀ (hy : t_rn (μ 15 13 0) (t_e (μ 15)) (t_k (μ 15 13 0) (t_e (μ 15)) s) ((t_e (μ 15)) - t_n0 (t_e (μ 15)) s) (t_n0 (t_e (μ 15)) s) = t_rn (μ 15 13 0) (t_e (μ 15)) (t_k (μ 15 13 0) (t_e (μ 15)) s) jj n) (mm : ch_M) (em : mm = up μ 15 (t_st (μ 15) s n (t_k (μ 15 13 0) (t_e (μ 15)) s))), ch_W X E 1 S mm 0 0 103 [(0, .ref (S.1 15 12 0))] [] := by
          intro jj
          induction jj with
          | zero =>
            intro n hn hy mm em
            have hn : n = (t_e (μ 15)) := by omega
            subst em
            refine ca_aload_nr h dX10_advance_103 rfl ?_
            refine gi_X10_25 h (hs.1 _ _ _ ⟨rfl, rfl⟩) dX10_advance_104 ?_
            refine ca_aload_nr h dX10_advance_107 rfl ?_
            refine gi_X10_22 h (hs.1 _ _ _ ⟨rfl, rfl⟩) dX10_advance_108 ?_
            refine ca_icmp_ge (tgt := 145) h dX10_advance_111 (by decide) (fun c_111 => ?_) (fun c_111 => ?_)
            ·
              refine ca_vreturn h hR dX10_advance_145 ?_
              have hk12 : t_k (μ 15 13 0) (t_e (μ 15)) s = 1 ∨ t_k (μ 15 13 0) (t_e (μ 15)) s = 2 := Or.inl (by have c9 := c_92; simp only [up_s] at c9; rw [t_st_at, if_pos ⟨rfl, rfl, rfl⟩] at c9; exact c9)
              exact ⟨rfl, rfl, by unfold t_adv; rw [if_neg (fun z => z c_4), hsk]; congr 1; unfold t_nn; rw [if_pos hk12, hy]; rfl⟩
            · exact absurd c_111 (by simp [up_s, t_st_at, -Int32.not_lt]; rw [q1]; exact nI_nlt (by omega) (by omega))
          | succ jj ih_103 =>
            intro n hn hy mm em
            have hn1 : n < (t_e (μ 15)) := by omega
            subst em
            refine ca_aload_nr h dX10_advance_103 rfl ?_
            refine gi_X10_25 h (hs.1 _ _ _ ⟨rfl, rfl⟩) dX10_advance_104 ?_
            refine ca_aload_nr h dX10_advance_107 rfl ?_
            refine gi_X10_22 h (hs.1 _ _ _ ⟨rfl, rfl⟩) dX10_advance_108 ?_
            refine ca_icmp_ge (tgt := 145) h dX10_advance_111 (by decide) (fun c_111 => ?_) (fun c_111 => ?_)
            · exact absurd (by simp [up_s, t_st_at, -Int32.not_lt]; rw [q1]; exact nI_lt hn1 (by omega)) c_111
            ·
              refine ca_aload_nr h dX10_advance_114 rfl ?_
              refine ca_aload_nr h dX10_advance_115 rfl ?_
              refine gi_X10_25 h (hs.1 _ _ _ ⟨rfl, rfl⟩) dX10_advance_116 ?_
              refine ca_top (show _ = nI n by simp [up_s, nw_at, t_st_at]) ?_
              refine ca_vi h hG ml_X10_37 (c_X10_byteAt hs (e := (t_e (μ 15))) (by simp [up_s, t_st_at]; exact q1) q2 (by omega)) (ci := 10) rfl rfl rfl (hs.1 _ _ _ ⟨rfl, rfl⟩) rfl rfl rfl rfl ⟨Nat.le_refl _, Nat.le_refl _⟩ rfl dX10_advance_119 ?_
              refine ca_si h hG ms_X10_41 (c_X10_kindOf) rfl rfl rfl rfl ⟨Nat.le_refl _, Nat.le_refl _⟩ rfl dX10_advance_122 ?_
              refine ca_aload_nr h dX10_advance_125 rfl ?_
              refine gi_X10_50 h (hs.1 _ _ _ ⟨rfl, rfl⟩) dX10_advance_126 ?_
              refine ca_icmp_ne (tgt := 145) h dX10_advance_129 (by decide) (fun c_129 => ?_) (fun c_129 => ?_)
              ·
                refine ca_vreturn h hR dX10_advance_145 ?_
                have hk12 : t_k (μ 15 13 0) (t_e (μ 15)) s = 1 ∨ t_k (μ 15 13 0) (t_e (μ 15)) s = 2 := Or.inl (by have c9 := c_92; simp only [up_s] at c9; rw [t_st_at, if_pos ⟨rfl, rfl, rfl⟩] at c9; exact c9)
                exact ⟨rfl, rfl, by unfold t_adv; rw [if_neg (fun z => z c_4), hsk]; congr 1; unfold t_nn; rw [if_pos hk12, hy, t_rn, if_neg (by have c9 := c_129; simp only [up_s] at c9; rw [t_st_13, t_st_at, if_pos ⟨rfl, rfl, rfl⟩] at c9; exact c9)]⟩
              ·
                refine ca_aload_nr h dX10_advance_132 rfl ?_
                refine ca_dup h dX10_advance_133 rfl ?_
                refine gi_X10_25 h (hs.1 _ _ _ ⟨rfl, rfl⟩) dX10_advance_134 ?_
                refine ca_iconst h dX10_advance_137 ik_1 ?_
                refine ca_iadd h dX10_advance_138 ?_
                refine pi_X10_25 h (hs.1 _ _ _ ⟨rfl, rfl⟩) dX10_advance_139 ?_
                refine ca_goto (tgt := 103) h dX10_advance_142 (by decide) ?_
                refine ca_pick [0] rfl ?_
                exact ih_103 (n + 1) (by omega) (by rw [hy, t_rn, if_pos (by have c9 := c_129; simp only [up_s] at c9; rw [t_st_13, t_st_at, if_pos ⟨rfl, rfl, rfl⟩] at c9; exact c9)]) _ (by simp only [ch_st_nw, up_s, up_up]; rw [t_st_at, if_neg (by decide), if_pos ⟨rfl, rfl, rfl⟩, nI_1, t_st_e])
        refine ca_pick [0] rfl ?_
        exact loop_103 ((t_e (μ 15)) - t_n0 (t_e (μ 15)) s) (t_n0 (t_e (μ 15)) s) (by have := t_n0_le hse; omega) rfl _ rfl
      ·
        refine ca_aload_nr h dX10_advance_95 rfl ?_
        refine gi_X10_50 h (hs.1 _ _ _ ⟨rfl, rfl⟩) dX10_advance_96 ?_
        refine ca_iconst h dX10_advance_99 ik_2 ?_
        refine ca_icmp_ne (tgt := 145) h dX10_advance_100 (by decide) (fun c_100 => ?_) (fun c_100 => ?_)
        ·
          refine ca_vreturn h hR dX10_advance_145 ?_
          have hk12 : ¬ (t_k (μ 15 13 0) (t_e (μ 15)) s = 1 ∨ t_k (μ 15 13 0) (t_e (μ 15)) s = 2) := by
            have c8 := c_92
            have c9 := c_100
            simp only [up_s] at c8 c9
            rw [t_st_at, if_pos ⟨rfl, rfl, rfl⟩] at c8 c9
            exact fun z => z.elim c8 c9
          exact ⟨rfl, rfl, by unfold t_adv; rw [if_neg (fun z => z c_4), hsk]; congr 1; unfold t_nn; rw [if_neg hk12]⟩
        ·
          have loop_103 : ∀ (jj n : Nat), n + jj = (t_e (μ 15)) → ∀ (hy : t_rn (μ 15 13 0) (t_e (μ 15)) (t_k (μ 15 13 0) (t_e (μ 15)) s) ((t_e (μ 15)) - t_n0 (t_e (μ 15)) s) (t_n0 (t_e (μ 15)) s) = t_rn (μ 15 13 0) (t_e (μ 15)) (t_k (μ 15 13 0) (t_e (μ 15)) s) jj n) (mm : ch_M) (em : mm = up μ 15 (t_st (μ 15) s n (t_k (μ 15 13 0) (t_e (μ 15)) s))), ch_W X E 1 S mm 0 0 103 [(0, .ref (S.1 15 12 0))] [] := by
            intro jj
            induction jj with
            | zero =>
              intro n hn hy mm em
              have hn : n = (t_e (μ 15)) := by omega
              subst em
              refine ca_aload_nr h dX10_advance_103 rfl ?_
              refine gi_X10_25 h (hs.1 _ _ _ ⟨rfl, rfl⟩) dX10_advance_104 ?_
              refine ca_aload_nr h dX10_advance_107 rfl ?_
              refine gi_X10_22 h (hs.1 _ _ _ ⟨rfl, rfl⟩) dX10_advance_108 ?_
              refine ca_icmp_ge (tgt := 145) h dX10_advance_111 (by decide) (fun c_111 => ?_) (fun c_111 => ?_)
              ·
                refine ca_vreturn h hR dX10_advance_145 ?_
                have hk12 : t_k (μ 15 13 0) (t_e (μ 15)) s = 1 ∨ t_k (μ 15 13 0) (t_e (μ 15)) s = 2 := Or.inr (by have c9 := c_100; simp only [up_s] at c9; rw [t_st_at, if_pos ⟨rfl, rfl, rfl⟩] at c9; exact c9)
                exact ⟨rfl, rfl, by unfold t_adv; rw [if_neg (fun z => z c_4), hsk]; congr 1; unfold t_nn; rw [if_pos hk12, hy]; rfl⟩
              · exact absurd c_111 (by simp [up_s, t_st_at, -Int32.not_lt]; rw [q1]; exact nI_nlt (by omega) (by omega))
            | succ jj ih_103 =>
              intro n hn hy mm em
              have hn1 : n < (t_e (μ 15)) := by omega
              subst em
              refine ca_aload_nr h dX10_advance_103 rfl ?_
              refine gi_X10_25 h (hs.1 _ _ _ ⟨rfl, rfl⟩) dX10_advance_104 ?_
              refine ca_aload_nr h dX10_advance_107 rfl ?_
              refine gi_X10_22 h (hs.1 _ _ _ ⟨rfl, rfl⟩) dX10_advance_108 ?_
              refine ca_icmp_ge (tgt := 145) h dX10_advance_111 (by decide) (fun c_111 => ?_) (fun c_111 => ?_)
              · exact absurd (by simp [up_s, t_st_at, -Int32.not_lt]; rw [q1]; exact nI_lt hn1 (by omega)) c_111
              ·
                refine ca_aload_nr h dX10_advance_114 rfl ?_
                refine ca_aload_nr h dX10_advance_115 rfl ?_
                refine gi_X10_25 h (hs.1 _ _ _ ⟨rfl, rfl⟩) dX10_advance_116 ?_
                refine ca_top (show _ = nI n by simp [up_s, nw_at, t_st_at]) ?_
                refine ca_vi h hG ml_X10_37 (c_X10_byteAt hs (e := (t_e (μ 15))) (by simp [up_s, t_st_at]; exact q1) q2 (by omega)) (ci := 10) rfl rfl rfl (hs.1 _ _ _ ⟨rfl, rfl⟩) rfl rfl rfl rfl ⟨Nat.le_refl _, Nat.le_refl _⟩ rfl dX10_advance_119 ?_
                refine ca_si h hG ms_X10_41 (c_X10_kindOf) rfl rfl rfl rfl ⟨Nat.le_refl _, Nat.le_refl _⟩ rfl dX10_advance_122 ?_
                refine ca_aload_nr h dX10_advance_125 rfl ?_
                refine gi_X10_50 h (hs.1 _ _ _ ⟨rfl, rfl⟩) dX10_advance_126 ?_
                refine ca_icmp_ne (tgt := 145) h dX10_advance_129 (by decide) (fun c_129 => ?_) (fun c_129 => ?_)
                ·
                  refine ca_vreturn h hR dX10_advance_145 ?_
                  have hk12 : t_k (μ 15 13 0) (t_e (μ 15)) s = 1 ∨ t_k (μ 15 13 0) (t_e (μ 15)) s = 2 := Or.inr (by have c9 := c_100; simp only [up_s] at c9; rw [t_st_at, if_pos ⟨rfl, rfl, rfl⟩] at c9; exact c9)
                  exact ⟨rfl, rfl, by unfold t_adv; rw [if_neg (fun z => z c_4), hsk]; congr 1; unfold t_nn; rw [if_pos hk12, hy, t_rn, if_neg (by have c9 := c_129; simp only [up_s] at c9; rw [t_st_13, t_st_at, if_pos ⟨rfl, rfl, rfl⟩] at c9; exact c9)]⟩
                ·
                  refine ca_aload_nr h dX10_advance_132 rfl ?_
                  refine ca_dup h dX10_advance_133 rfl ?_
                  refine gi_X10_25 h (hs.1 _ _ _ ⟨rfl, rfl⟩) dX10_advance_134 ?_
                  refine ca_iconst h dX10_advance_137 ik_1 ?_
                  refine ca_iadd h dX10_advance_138 ?_
                  refine pi_X10_25 h (hs.1 _ _ _ ⟨rfl, rfl⟩) dX10_advance_139 ?_
                  refine ca_goto (tgt := 103) h dX10_advance_142 (by decide) ?_
                  refine ca_pick [0] rfl ?_
                  exact ih_103 (n + 1) (by omega) (by rw [hy, t_rn, if_pos (by have c9 := c_129; simp only [up_s] at c9; rw [t_st_13, t_st_at, if_pos ⟨rfl, rfl, rfl⟩] at c9; exact c9)]) _ (by simp only [ch_st_nw, up_s, up_up]; rw [t_st_at, if_neg (by decide), if_pos ⟨rfl, rfl, rfl⟩, nI_1, t_st_e])
          refine ca_pick [0] rfl ?_
          exact loop_103 ((t_e (μ 15)) - t_n0 (t_e (μ 15)) s) (t_n0 (t_e (μ 15)) s) (by have := t_n0_le hse; omega) rfl _ rfl
    have loop_16 : ∀ (jj n : Nat), n + jj = (t_e (μ 15)) → ∀ (hx : t_rn (μ 15 13 0) (t_e (μ 15)) 3 ((t_e (μ 15)) - (t_n (μ 15))) (t_n (μ 15)) = t_rn (μ 15 13 0) (t_e (μ 15)) 3 jj n) (mm : ch_M) (em : mm = up μ 15 (nw (μ 15) 12 0 5 (nI n))), ch_W X E 1 S mm 0 0 16 [(0, .ref (S.1 15 12 0))] [] := by
      intro jj
      induction jj with
      | zero =>
        intro n hn hx mm em
        have hn : n = (t_e (μ 15)) := by omega
        subst em
        refine ca_aload_nr h dX10_advance_16 rfl ?_
        refine gi_X10_34 h (hs.1 _ _ _ ⟨rfl, rfl⟩) dX10_advance_17 ?_
        refine ca_aload_nr h dX10_advance_20 rfl ?_
        refine gi_X10_22 h (hs.1 _ _ _ ⟨rfl, rfl⟩) dX10_advance_21 ?_
        refine ca_icmp_ge (tgt := 55) h dX10_advance_24 (by decide) (fun c_24 => ?_) (fun c_24 => ?_)
        ·
          refine ca_pick [0] rfl ?_
          exact K_55 n (by omega) (by unfold t_ns; rw [hx]; rfl)
        · exact absurd c_24 (by simp [up_s, nw_at, -Int32.not_lt]; rw [q1]; exact nI_nlt (by omega) (by omega))
      | succ jj ih_16 =>
        intro n hn hx mm em
        have hn1 : n < (t_e (μ 15)) := by omega
        subst em
        refine ca_aload_nr h dX10_advance_16 rfl ?_
        refine gi_X10_34 h (hs.1 _ _ _ ⟨rfl, rfl⟩) dX10_advance_17 ?_
        refine ca_aload_nr h dX10_advance_20 rfl ?_
        refine gi_X10_22 h (hs.1 _ _ _ ⟨rfl, rfl⟩) dX10_advance_21 ?_
        refine ca_icmp_ge (tgt := 55) h dX10_advance_24 (by decide) (fun c_24 => ?_) (fun c_24 => ?_)
        · exact absurd (by simp [up_s, nw_at, -Int32.not_lt]; rw [q1]; exact nI_lt hn1 (by omega)) c_24
        ·
          refine ca_aload_nr h dX10_advance_27 rfl ?_
          refine ca_aload_nr h dX10_advance_28 rfl ?_
          refine gi_X10_34 h (hs.1 _ _ _ ⟨rfl, rfl⟩) dX10_advance_29 ?_
          refine ca_top (show _ = nI n by simp [up_s, nw_at, t_st_at]) ?_
          refine ca_vi h hG ml_X10_37 (c_X10_byteAt hs (e := (t_e (μ 15))) (by simp [up_s, nw_at]; exact q1) q2 (by omega)) (ci := 10) rfl rfl rfl (hs.1 _ _ _ ⟨rfl, rfl⟩) rfl rfl rfl rfl ⟨Nat.le_refl _, Nat.le_refl _⟩ rfl dX10_advance_32 ?_
          refine ca_si h hG ms_X10_41 (c_X10_kindOf) rfl rfl rfl rfl ⟨Nat.le_refl _, Nat.le_refl _⟩ rfl dX10_advance_35 ?_
          refine ca_iconst h dX10_advance_38 ik_3 ?_
          refine ca_icmp_ne (tgt := 55) h dX10_advance_39 (by decide) (fun c_39 => ?_) (fun c_39 => ?_)
          ·
            refine ca_pick [0] rfl ?_
            exact K_55 n (by omega) (by unfold t_ns; rw [hx, t_rn, if_neg (by unfold t_k; have c9 := c_39; simp only [up_s] at c9; rw [nw_k (by decide)] at c9; exact c9)])
          ·
            refine ca_aload_nr h dX10_advance_42 rfl ?_
            refine ca_dup h dX10_advance_43 rfl ?_
            refine gi_X10_34 h (hs.1 _ _ _ ⟨rfl, rfl⟩) dX10_advance_44 ?_
            refine ca_iconst h dX10_advance_47 ik_1 ?_
            refine ca_iadd h dX10_advance_48 ?_
            refine pi_X10_34 h (hs.1 _ _ _ ⟨rfl, rfl⟩) dX10_advance_49 ?_
            refine ca_goto (tgt := 16) h dX10_advance_52 (by decide) ?_
            refine ca_pick [0] rfl ?_
            exact ih_16 (n + 1) (by omega) (by rw [hx, t_rn, if_pos (by unfold t_k; have c9 := c_39; simp only [up_s] at c9; rw [nw_k (by decide)] at c9; exact c9)]) _ (by simp only [ch_st_nw, up_s, up_up, nw_nw]; rw [nw_at, if_pos ⟨rfl, rfl, rfl⟩, nI_1])
    refine ca_pick [0] rfl ?_
    exact loop_16 ((t_e (μ 15)) - (t_n (μ 15))) (t_n (μ 15)) (by omega) rfl _ (by rw [ch_st_nw, q3])
  ·
    refine ca_vreturn h hR dX10_advance_7 ?_
    exact ⟨rfl, rfl, by unfold t_adv; rw [if_pos c_4, up_id]⟩
set_option maxHeartbeats 100000 in
theorem c_X10_is {l : Launch} {E : ch_E} {S : ch_S} {μ : ch_M} (hs : ch_Std E S) (hq : k_tx (μ 15)) {a : Nat} (ha : a < ch_nS) : ch_C E l yX10_is cX10_is 3 (some FieldType.boolean) 5 0 0 S μ [.ref (S.1 15 12 0), .ref (E.2.2.2.1 a)] (ch_F (some (.int (bI (t_is (μ 15) a)))) S (μ)) := by
  refine ch_enter rfl rfl ?_
  intro X hl0 h hG hR hnm
  have h : ch_H X E RX10 cX10_is 3 := h
  obtain ⟨⟨q1, q2, q3, q4⟩, q5, q6⟩ := hq
  have hl := k_len_le a ha
  have hd : μ 15 12 0 6 - μ 15 12 0 5 = nI (t_n (μ 15) - t_s (μ 15)) := by rw [q3, q5, pk_sub q6]
  show ch_W X E 3 S μ 0 0 0 [(0, .ref (S.1 15 12 0)), (1, .ref (E.2.2.2.1 a))] []
  refine ca_aload_nr h dX10_is_0 rfl ?_
  refine gi_X10_28 h (hs.1 _ _ _ ⟨rfl, rfl⟩) dX10_is_1 ?_
  refine ca_if_ne (tgt := 23) h dX10_is_4 (by decide) (fun c_4 => ?_) (fun c_4 => ?_)
  ·
    refine ca_iconst h dX10_is_23 ik_0 ?_
    refine ca_ireturn h hR rfl dX10_is_24 ?_
    exact ⟨by unfold t_is bI; rw [if_neg (fun z => c_4 (of_decide_eq_true z).1)], rfl, rfl⟩
  ·
    refine ca_aload_nr h dX10_is_7 rfl ?_
    refine gi_X10_25 h (hs.1 _ _ _ ⟨rfl, rfl⟩) dX10_is_8 ?_
    refine ca_aload_nr h dX10_is_11 rfl ?_
    refine gi_X10_34 h (hs.1 _ _ _ ⟨rfl, rfl⟩) dX10_is_12 ?_
    refine ca_isub h dX10_is_15 ?_
    refine ca_aload_nr h dX10_is_16 rfl ?_
    refine ca_stx h (by assumption) hG ml_X10_53 (c_J0_length_8abf5 ha) rfl rfl rfl rfl rfl ⟨Nat.le_refl _, Nat.le_refl _⟩ rfl dX10_is_17 ?_
    refine ca_icmp_eq (tgt := 25) h dX10_is_20 (by decide) (fun c_20 => ?_) (fun c_20 => ?_)
    ·
      have hlen : t_n (μ 15) - t_s (μ 15) = k_len a := by have c9 := c_20; rw [hd] at c9; exact (nI_eq (by omega) (by omega)).mp c9
      refine ca_iconst h dX10_is_25 ik_0 ?_
      refine ca_istore_n h dX10_is_26 rfl ?_
      have loop_27 : ∀ (jj n : Nat), n + jj = k_len a → ∀ (x2 : Int32) (e2 : x2 = nI n) (hb : ∀ i, i < n → t_at (μ 15 13 0) (t_e (μ 15)) (t_s (μ 15) + i) = k_chr a i), ch_W X E 3 S μ 0 0 27 [(0, .ref (S.1 15 12 0)), (1, .ref (E.2.2.2.1 a)), (2, .int x2)] [] := by
        intro jj
        induction jj with
        | zero =>
          intro n hn x2 e2 hb
          have hn : n = k_len a := by omega
          subst e2
          refine ca_iload_n h dX10_is_27 rfl ?_
          refine ca_aload_nr h dX10_is_28 rfl ?_
          refine ca_stx h (by assumption) hG ml_X10_53 (c_J0_length_8abf5 ha) rfl rfl rfl rfl rfl ⟨Nat.le_refl _, Nat.le_refl _⟩ rfl dX10_is_29 ?_
          refine ca_icmp_ge (tgt := 61) h dX10_is_32 (by decide) (fun c_32 => ?_) (fun c_32 => ?_)
          ·
            refine ca_iconst h dX10_is_61 ik_1 ?_
            refine ca_ireturn h hR rfl dX10_is_62 ?_
            exact ⟨by unfold t_is bI; rw [if_pos (decide_eq_true ⟨c_4, hlen, by rw [← hn]; exact hb⟩)], rfl, rfl⟩
          · exact absurd c_32 (nI_nlt (by omega) (by omega))
        | succ jj ih_27 =>
          intro n hn x2 e2 hb
          have hn1 : n < k_len a := by omega
          subst e2
          refine ca_iload_n h dX10_is_27 rfl ?_
          refine ca_aload_nr h dX10_is_28 rfl ?_
          refine ca_stx h (by assumption) hG ml_X10_53 (c_J0_length_8abf5 ha) rfl rfl rfl rfl rfl ⟨Nat.le_refl _, Nat.le_refl _⟩ rfl dX10_is_29 ?_
          refine ca_icmp_ge (tgt := 61) h dX10_is_32 (by decide) (fun c_32 => ?_) (fun c_32 => ?_)
          · exact absurd (nI_lt hn1 (by omega)) c_32
          ·
            refine ca_aload_nr h dX10_is_35 rfl ?_
            refine ca_aload_nr h dX10_is_36 rfl ?_
            refine gi_X10_34 h (hs.1 _ _ _ ⟨rfl, rfl⟩) dX10_is_37 ?_
            refine ca_iload_n h dX10_is_40 rfl ?_
            refine ca_iadd h dX10_is_41 ?_
            refine ca_top (show _ = nI (t_s (μ 15) + n) by rw [q5, nI_add]) ?_
            refine ca_vi h hG ml_X10_37 (c_X10_byteAt hs q1 q2 (by omega)) (ci := 10) rfl rfl rfl (hs.1 _ _ _ ⟨rfl, rfl⟩) rfl rfl rfl rfl ⟨Nat.le_refl _, Nat.le_refl _⟩ rfl dX10_is_42 ?_
            refine ca_aload_nr h dX10_is_45 rfl ?_
            refine ca_iload_n h dX10_is_46 rfl ?_
            refine ca_stx h (by assumption) hG ml_X10_59 (c_J0_charAt_5068e ha hn1) rfl rfl rfl rfl rfl ⟨Nat.le_refl _, Nat.le_refl _⟩ rfl dX10_is_47 ?_
            refine ca_icmp_eq (tgt := 55) h dX10_is_50 (by decide) (fun c_50 => ?_) (fun c_50 => ?_)
            ·
              refine ca_iinc h dX10_is_55 rfl ik_1 rfl ?_
              refine ca_goto (tgt := 27) h dX10_is_58 (by decide) ?_
              refine ca_pick [1, 2, 0] rfl ?_
              exact ih_27 (n + 1) (by omega) _ (nI_1 n) (fun i hi => by rcases Nat.lt_succ_iff_lt_or_eq.mp hi with z | z; exact hb i z; rw [z]; exact c_50)
            ·
              refine ca_iconst h dX10_is_53 ik_0 ?_
              refine ca_ireturn h hR rfl dX10_is_54 ?_
              exact ⟨by unfold t_is bI; rw [if_neg (fun z => c_50 ((of_decide_eq_true z).2.2 n hn1))], rfl, rfl⟩
      refine ca_pick [1, 2, 0] rfl ?_
      exact loop_27 _ 0 (Nat.zero_add _) _ rfl (fun i hi => absurd hi (Nat.not_lt_zero _))
    ·
      refine ca_iconst h dX10_is_23 ik_0 ?_
      refine ca_ireturn h hR rfl dX10_is_24 ?_
      exact ⟨by unfold t_is bI; rw [if_neg (fun z => c_20 (by rw [hd, (of_decide_eq_true z).2.1]))], rfl, rfl⟩
set_option maxHeartbeats 100000 in
theorem c_X10_open {l : Launch} {E : ch_E} {S : ch_S} {μ : ch_M} (hs : ch_Std E S) {e : Nat} (he : e ≤ 700) : ch_C E l yX10_open cX10_open 2 none 3 0 0 S μ [.ref (S.1 15 12 0), .int (nI e)] (ch_F none S (up μ 15 (t_open (μ 15) (nI e)))) := by
  refine ch_enter rfl rfl ?_
  intro X hl0 h hG hR hnm
  have h : ch_H X E RX10 cX10_open 2 := h
  show ch_W X E 2 S μ 0 0 0 [(0, .ref (S.1 15 12 0)), (1, .int (nI e))] []
  refine ca_aload_nr h dX10_open_0 rfl ?_
  refine ca_iload_n h dX10_open_1 rfl ?_
  refine pi_X10_22 h (hs.1 _ _ _ ⟨rfl, rfl⟩) dX10_open_2 ?_
  refine ca_aload_nr h dX10_open_5 rfl ?_
  refine ca_iconst h dX10_open_6 ik_0 ?_
  refine pi_X10_25 h (hs.1 _ _ _ ⟨rfl, rfl⟩) dX10_open_7 ?_
  refine ca_aload_nr h dX10_open_10 rfl ?_
  refine ca_iconst h dX10_open_11 ik_0 ?_
  refine pi_X10_28 h (hs.1 _ _ _ ⟨rfl, rfl⟩) dX10_open_12 ?_
  refine ca_mem (μ'' := up μ 15 (nw (nw (nw (μ 15) 12 0 4 (nI e)) 12 0 6 0) 12 0 1 0)) (by simp only [ch_st_nw, up_s, up_up]) ?_
  have g : k_tn ((up μ 15 (nw (nw (nw (μ 15) 12 0 4 (nI e)) 12 0 6 0) 12 0 1 0)) 15) := by
    have a1 : t_e (nw (nw (nw (μ 15) 12 0 4 (nI e)) 12 0 6 0) 12 0 1 0) = e := by unfold t_e; simp [nw_at]; exact nI_clamp (by omega)
    have a2 : t_n (nw (nw (nw (μ 15) 12 0 4 (nI e)) 12 0 6 0) 12 0 1 0) = 0 := by unfold t_n; simp [nw_at]
    rw [up_s]; unfold k_tn; rw [a1, a2]; refine ⟨by simp [nw_at], he, by simp [nw_at]; rfl, Nat.zero_le _⟩
  refine ca_aload_nr h dX10_open_15 rfl ?_
  refine ca_vv h hG ml_X10_31 (c_X10_advance hs g) (ci := 10) rfl rfl rfl (hs.1 _ _ _ ⟨rfl, rfl⟩) rfl rfl rfl rfl ⟨Nat.le_refl _, Nat.le_refl _⟩ rfl dX10_open_16 ?_
  refine ca_vreturn h hR dX10_open_19 ?_
  exact ⟨rfl, rfl, by simp only [up_s, up_up]; rfl⟩
set_option maxHeartbeats 100000 in
theorem c_X10_close {l : Launch} {E : ch_E} {S : ch_S} {μ : ch_M} (hs : ch_Std E S) : ch_C E l yX10_close cX10_close 1 none 1 0 0 S μ [.ref (S.1 15 12 0)] (ch_F none S (up μ 15 (t_close (μ 15)))) := by
  refine ch_enter rfl rfl ?_
  intro X hl0 h hG hR hnm
  have h : ch_H X E RX10 cX10_close 1 := h
  show ch_W X E 1 S μ 0 0 0 [(0, .ref (S.1 15 12 0))] []
  refine ca_aload_nr h dX10_close_0 rfl ?_
  refine ca_aload_nr h dX10_close_1 rfl ?_
  refine gi_X10_28 h (hs.1 _ _ _ ⟨rfl, rfl⟩) dX10_close_2 ?_
  refine ca_if_eq (tgt := 15) h dX10_close_5 (by decide) (fun c_5 => ?_) (fun c_5 => ?_)
  ·
    refine ca_iconst h dX10_close_15 ik_m1 ?_
    refine pi_X10_9 h (hs.1 _ _ _ ⟨rfl, rfl⟩) dX10_close_16 ?_
    refine ca_aload_nr h dX10_close_19 rfl ?_
    refine ca_iconst h dX10_close_20 ik_0 ?_
    refine pi_X10_19 h (hs.1 _ _ _ ⟨rfl, rfl⟩) dX10_close_21 ?_
    refine ca_vreturn h hR dX10_close_24 ?_
    exact ⟨rfl, rfl, by simp only [ch_st_nw, up_s, up_up]; unfold t_close; rw [if_pos c_5]⟩
  ·
    refine ca_aload_nr h dX10_close_8 rfl ?_
    refine gi_X10_34 h (hs.1 _ _ _ ⟨rfl, rfl⟩) dX10_close_9 ?_
    refine ca_goto (tgt := 16) h dX10_close_12 (by decide) ?_
    refine pi_X10_9 h (hs.1 _ _ _ ⟨rfl, rfl⟩) dX10_close_16 ?_
    refine ca_aload_nr h dX10_close_19 rfl ?_
    refine ca_iconst h dX10_close_20 ik_0 ?_
    refine pi_X10_19 h (hs.1 _ _ _ ⟨rfl, rfl⟩) dX10_close_21 ?_
    refine ca_vreturn h hR dX10_close_24 ?_
    exact ⟨rfl, rfl, by simp only [ch_st_nw, up_s, up_up]; unfold t_close; rw [if_neg c_5]⟩
set_option maxHeartbeats 100000 in
theorem c_X10_expect {l : Launch} {E : ch_E} {S : ch_S} {μ : ch_M} (hs : ch_Std E S) (hq : k_tx (μ 15)) {a : Nat} (ha : a < ch_nS) : ch_C E l yX10_expect cX10_expect 2 none 6 0 0 S μ [.ref (S.1 15 12 0), .ref (E.2.2.2.1 a)] (ch_F none S (up μ 15 (t_exp (μ 15) a))) := by
  refine ch_enter rfl rfl ?_
  intro X hl0 h hG hR hnm
  have h : ch_H X E RX10 cX10_expect 2 := h
  show ch_W X E 2 S μ 0 0 0 [(0, .ref (S.1 15 12 0)), (1, .ref (E.2.2.2.1 a))] []
  refine ca_aload_nr h dX10_expect_0 rfl ?_
  refine ca_aload_nr h dX10_expect_1 rfl ?_
  refine ca_vi h hG ml_X10_63 (c_X10_is hs hq ha) (ci := 10) rfl rfl rfl (hs.1 _ _ _ ⟨rfl, rfl⟩) rfl rfl rfl rfl ⟨Nat.le_refl _, Nat.le_refl _⟩ rfl dX10_expect_2 ?_
  refine ca_if_eq (tgt := 15) h dX10_expect_5 (by decide) (fun c_5 => ?_) (fun c_5 => ?_)
  ·
    refine ca_aload_nr h dX10_expect_15 rfl ?_
    refine ca_iconst h dX10_expect_16 ik_1 ?_
    refine ca_vv h hG ml_X10_67 (c_X10_fail hs) (ci := 10) rfl rfl rfl (hs.1 _ _ _ ⟨rfl, rfl⟩) rfl rfl rfl rfl ⟨Nat.le_refl _, Nat.le_refl _⟩ rfl dX10_expect_17 ?_
    refine ca_vreturn h hR dX10_expect_20 ?_
    exact ⟨rfl, rfl, by unfold t_exp; rw [if_neg (fun z => bI_n0.mpr z c_5)]⟩
  ·
    refine ca_aload_nr h dX10_expect_8 rfl ?_
    refine ca_vv h hG ml_X10_31 (c_X10_advance hs hq.1) (ci := 10) rfl rfl rfl (hs.1 _ _ _ ⟨rfl, rfl⟩) rfl rfl rfl rfl ⟨Nat.le_refl _, Nat.le_refl _⟩ rfl dX10_expect_9 ?_
    refine ca_goto (tgt := 20) h dX10_expect_12 (by decide) ?_
    refine ca_vreturn h hR dX10_expect_20 ?_
    exact ⟨rfl, rfl, by unfold t_exp; rw [if_pos (bI_n0.mp c_5)]⟩
set_option maxHeartbeats 100000 in
theorem c_X10_seeNumber {l : Launch} {E : ch_E} {S : ch_S} {μ : ch_M} (hs : ch_Std E S) (hq : k_tx (μ 15)) {lo hi : Int32} : ch_C E l yX10_seeNumber cX10_seeNumber 5 (some FieldType.int) 2 0 0 S μ [.ref (S.1 15 12 0), .int lo, .int hi] (ch_F (some (.int ((t_see (μ 15) lo hi).1))) S (up μ 15 (t_see (μ 15) lo hi).2)) := by
  refine ch_enter rfl rfl ?_
  intro X hl0 h hG hR hnm
  have h : ch_H X E RX10 cX10_seeNumber 5 := h
  obtain ⟨⟨q1, q2, q3, q4⟩, q5, q6⟩ := hq
  show ch_W X E 5 S μ 0 0 0 [(0, .ref (S.1 15 12 0)), (1, .int lo), (2, .int hi)] []
  refine ca_aload_nr h dX10_seeNumber_0 rfl ?_
  refine gi_X10_50 h (hs.1 _ _ _ ⟨rfl, rfl⟩) dX10_seeNumber_1 ?_
  refine ca_iconst h dX10_seeNumber_4 ik_2 ?_
  refine ca_icmp_eq (tgt := 13) h dX10_seeNumber_5 (by decide) (fun c_5 => ?_) (fun c_5 => ?_)
  ·
    refine ca_aload_nr h dX10_seeNumber_13 rfl ?_
    refine gi_X10_28 h (hs.1 _ _ _ ⟨rfl, rfl⟩) dX10_seeNumber_14 ?_
    refine ca_if_eq (tgt := 22) h dX10_seeNumber_17 (by decide) (fun c_17 => ?_) (fun c_17 => ?_)
    ·
      refine ca_iconst h dX10_seeNumber_22 ik_0 ?_
      refine ca_istore_n h dX10_seeNumber_23 rfl ?_
      refine ca_aload_nr h dX10_seeNumber_24 rfl ?_
      refine gi_X10_34 h (hs.1 _ _ _ ⟨rfl, rfl⟩) dX10_seeNumber_25 ?_
      refine ca_istore h dX10_seeNumber_28 rfl ?_
      have loop_30 : ∀ (jj n : Nat), n + jj = (t_n (μ 15) - t_s (μ 15)) → ∀ (x3 : Int32) (e3 : x3 = t_num (μ 15) n) (x4 : Int32) (e4 : x4 = nI (t_s (μ 15) + n)), ch_W X E 5 S μ 0 0 30 [(0, .ref (S.1 15 12 0)), (1, .int lo), (2, .int hi), (3, .int x3), (4, .int x4)] [] := by
        intro jj
        induction jj with
        | zero =>
          intro n hn x3 e3 x4 e4
          have hn : n = (t_n (μ 15) - t_s (μ 15)) := by omega
          subst e3 e4
          refine ca_iload h dX10_seeNumber_30 rfl ?_
          refine ca_aload_nr h dX10_seeNumber_32 rfl ?_
          refine gi_X10_25 h (hs.1 _ _ _ ⟨rfl, rfl⟩) dX10_seeNumber_33 ?_
          refine ca_icmp_ge (tgt := 66) h dX10_seeNumber_36 (by decide) (fun c_36 => ?_) (fun c_36 => ?_)
          ·
            refine ca_iload_n h dX10_seeNumber_66 rfl ?_
            refine ca_iload_n h dX10_seeNumber_67 rfl ?_
            refine ca_icmp_lt (tgt := 76) h dX10_seeNumber_68 (by decide) (fun c_68 => ?_) (fun c_68 => ?_)
            ·
              refine ca_aload_nr h dX10_seeNumber_76 rfl ?_
              refine ca_iconst h dX10_seeNumber_77 ik_2 ?_
              refine ca_vv h hG ml_X10_67 (c_X10_fail hs) (ci := 10) rfl rfl rfl (hs.1 _ _ _ ⟨rfl, rfl⟩) rfl rfl rfl rfl ⟨Nat.le_refl _, Nat.le_refl _⟩ rfl dX10_seeNumber_78 ?_
              refine ca_iload_n h dX10_seeNumber_81 rfl ?_
              refine ca_ireturn h hR rfl dX10_seeNumber_82 ?_
              have e1 : t_see (μ 15) lo hi = (lo, t_fail (μ 15) 2) := by
                unfold t_see t_sn; rw [if_pos c_5, if_neg (fun z => z c_17), if_pos (by rw [← hn]; exact Or.inl c_68)]
              exact ⟨by rw [e1], rfl, by rw [e1]⟩
            ·
              refine ca_iload_n h dX10_seeNumber_71 rfl ?_
              refine ca_iload_n h dX10_seeNumber_72 rfl ?_
              refine ca_icmp_le (tgt := 83) h dX10_seeNumber_73 (by decide) (fun c_73 => ?_) (fun c_73 => ?_)
              ·
                refine ca_iload_n h dX10_seeNumber_83 rfl ?_
                refine ca_ireturn h hR rfl dX10_seeNumber_84 ?_
                have e1 : t_see (μ 15) lo hi = (t_num (μ 15) (t_n (μ 15) - t_s (μ 15)), μ 15) := by
                  unfold t_see t_sn; rw [if_pos c_5, if_neg (fun z => z c_17), if_neg (by rw [← hn]; exact fun z => z.elim c_68 c_73)]
                exact ⟨by rw [e1, hn], rfl, by rw [e1, up_id]⟩
              ·
                refine ca_aload_nr h dX10_seeNumber_76 rfl ?_
                refine ca_iconst h dX10_seeNumber_77 ik_2 ?_
                refine ca_vv h hG ml_X10_67 (c_X10_fail hs) (ci := 10) rfl rfl rfl (hs.1 _ _ _ ⟨rfl, rfl⟩) rfl rfl rfl rfl ⟨Nat.le_refl _, Nat.le_refl _⟩ rfl dX10_seeNumber_78 ?_
                refine ca_iload_n h dX10_seeNumber_81 rfl ?_
                refine ca_ireturn h hR rfl dX10_seeNumber_82 ?_
                have e1 : t_see (μ 15) lo hi = (lo, t_fail (μ 15) 2) := by
                  unfold t_see t_sn; rw [if_pos c_5, if_neg (fun z => z c_17), if_pos (by rw [← hn]; exact Or.inr c_73)]
                exact ⟨by rw [e1], rfl, by rw [e1]⟩
          · exact absurd c_36 (by rw [q3]; exact nI_nlt (by omega) (by omega))
        | succ jj ih_30 =>
          intro n hn x3 e3 x4 e4
          have hn1 : n < (t_n (μ 15) - t_s (μ 15)) := by omega
          subst e3 e4
          refine ca_iload h dX10_seeNumber_30 rfl ?_
          refine ca_aload_nr h dX10_seeNumber_32 rfl ?_
          refine gi_X10_25 h (hs.1 _ _ _ ⟨rfl, rfl⟩) dX10_seeNumber_33 ?_
          refine ca_icmp_ge (tgt := 66) h dX10_seeNumber_36 (by decide) (fun c_36 => ?_) (fun c_36 => ?_)
          · exact absurd (by rw [q3]; exact nI_lt (by omega) (by omega)) c_36
          ·
            refine ca_iload_n h dX10_seeNumber_39 rfl ?_
            refine ca_ldc h kw_1014 dX10_seeNumber_40 ?_
            refine ca_icmp_ge (tgt := 60) h dX10_seeNumber_42 (by decide) (fun c_42 => ?_) (fun c_42 => ?_)
            ·
              refine ca_iinc h dX10_seeNumber_60 rfl ik_1 rfl ?_
              refine ca_goto (tgt := 30) h dX10_seeNumber_63 (by decide) ?_
              refine ca_pick [1, 2, 3, 4, 0] rfl ?_
              exact ih_30 (n + 1) (by omega) _ (by unfold t_num; rw [kf_s]; exact (if_neg c_42).symm) _ (by rw [nI_1]; rfl)
            ·
              refine ca_iload_n h dX10_seeNumber_45 rfl ?_
              refine ca_bipush h dX10_seeNumber_46 bk_10 ?_
              refine ca_imul h dX10_seeNumber_48 ?_
              refine ca_aload_nr h dX10_seeNumber_49 rfl ?_
              refine ca_iload h dX10_seeNumber_50 rfl ?_
              refine ca_top (show _ = nI (t_s (μ 15) + n) from rfl) ?_
              refine ca_vi h hG ml_X10_37 (c_X10_byteAt hs q1 q2 (by omega)) (ci := 10) rfl rfl rfl (hs.1 _ _ _ ⟨rfl, rfl⟩) rfl rfl rfl rfl ⟨Nat.le_refl _, Nat.le_refl _⟩ rfl dX10_seeNumber_52 ?_
              refine ca_bipush h dX10_seeNumber_55 bk_48 ?_
              refine ca_isub h dX10_seeNumber_57 ?_
              refine ca_iadd h dX10_seeNumber_58 ?_
              refine ca_istore_n h dX10_seeNumber_59 rfl ?_
              refine ca_iinc h dX10_seeNumber_60 rfl ik_1 rfl ?_
              refine ca_goto (tgt := 30) h dX10_seeNumber_63 (by decide) ?_
              refine ca_pick [2, 3, 4, 1, 0] rfl ?_
              exact ih_30 (n + 1) (by omega) _ (by unfold t_num; rw [kf_s]; exact (if_pos c_42).symm) _ (by rw [nI_1]; rfl)
      refine ca_pick [2, 3, 4, 1, 0] rfl ?_
      exact loop_30 _ 0 (Nat.zero_add _) _ rfl _ (by rw [q5]; rfl)
    ·
      refine ca_iload_n h dX10_seeNumber_20 rfl ?_
      refine ca_ireturn h hR rfl dX10_seeNumber_21 ?_
      have e1 : t_see (μ 15) lo hi = (lo, μ 15) := by
        unfold t_see t_sn; rw [if_pos c_5, if_pos c_17]
      exact ⟨by rw [e1], rfl, by rw [e1, up_id]⟩
  ·
    refine ca_aload_nr h dX10_seeNumber_8 rfl ?_
    refine ca_iconst h dX10_seeNumber_9 ik_1 ?_
    refine ca_vv h hG ml_X10_67 (c_X10_fail hs) (ci := 10) rfl rfl rfl (hs.1 _ _ _ ⟨rfl, rfl⟩) rfl rfl rfl rfl ⟨Nat.le_refl _, Nat.le_refl _⟩ rfl dX10_seeNumber_10 ?_
    refine ca_aload_nr h dX10_seeNumber_13 rfl ?_
    refine gi_X10_28 h (hs.1 _ _ _ ⟨rfl, rfl⟩) dX10_seeNumber_14 ?_
    refine ca_if_eq (tgt := 22) h dX10_seeNumber_17 (by decide) (fun c_17 => ?_) (fun c_17 => ?_)
    · exact absurd c_17 (by rw [up_s]; exact t_fail_ne (by decide))
    ·
      refine ca_iload_n h dX10_seeNumber_20 rfl ?_
      refine ca_ireturn h hR rfl dX10_seeNumber_21 ?_
      have e1 : t_see (μ 15) lo hi = (lo, t_fail (μ 15) 1) := by
        unfold t_see t_sn; rw [if_neg c_5, if_pos (t_fail_ne (by decide))]
      exact ⟨by rw [e1], rfl, by rw [e1]⟩
theorem k_tx_see {q : ch_N} (h : k_tx q) (lo hi : Int32) : k_tx (t_see q lo hi).2 := by
  have h1 : k_tx (if q 12 0 7 = 2 then q else t_fail q 1) := by
    split
    · exact h
    · exact k_tx_fail h
  unfold t_see t_sn
  generalize (if q 12 0 7 = 2 then q else t_fail q 1) = p at *
  split
  · exact h1
  · split
    · exact k_tx_fail h1
    · exact h1
theorem k_tx_take {q : ch_N} (h : k_tx q) (lo hi : Int32) : k_tx (t_take q lo hi).2 := k_tx_adv (k_tx_see h lo hi)
theorem k_tx_exp {q : ch_N} (h : k_tx q) (a : Nat) : k_tx (t_exp q a) := by
  unfold t_exp
  split
  · exact k_tx_adv h
  · exact k_tx_fail h
set_option maxHeartbeats 100000 in
theorem c_X10_takeNumber {l : Launch} {E : ch_E} {S : ch_S} {μ : ch_M} (hs : ch_Std E S) (hq : k_tx (μ 15)) {lo hi : Int32} : ch_C E l yX10_takeNumber cX10_takeNumber 4 (some FieldType.int) 3 0 0 S μ [.ref (S.1 15 12 0), .int lo, .int hi] (ch_F (some (.int ((t_take (μ 15) lo hi).1))) S (up μ 15 (t_take (μ 15) lo hi).2)) := by
  refine ch_enter rfl rfl ?_
  intro X hl0 h hG hR hnm
  have h : ch_H X E RX10 cX10_takeNumber 4 := h
  show ch_W X E 4 S μ 0 0 0 [(0, .ref (S.1 15 12 0)), (1, .int lo), (2, .int hi)] []
  refine ca_aload_nr h dX10_takeNumber_0 rfl ?_
  refine ca_iload_n h dX10_takeNumber_1 rfl ?_
  refine ca_iload_n h dX10_takeNumber_2 rfl ?_
  refine ca_vi h hG ml_X10_71 (c_X10_seeNumber hs hq) (ci := 10) rfl rfl rfl (hs.1 _ _ _ ⟨rfl, rfl⟩) rfl rfl rfl rfl ⟨Nat.le_refl _, Nat.le_refl _⟩ rfl dX10_takeNumber_3 ?_
  refine ca_istore_n h dX10_takeNumber_6 rfl ?_
  refine ca_aload_nr h dX10_takeNumber_7 rfl ?_
  refine ca_vv h hG ml_X10_31 (c_X10_advance hs (by rw [up_s]; exact (k_tx_see hq lo hi).1)) (ci := 10) rfl rfl rfl (hs.1 _ _ _ ⟨rfl, rfl⟩) rfl rfl rfl rfl ⟨Nat.le_refl _, Nat.le_refl _⟩ rfl dX10_takeNumber_8 ?_
  refine ca_iload_n h dX10_takeNumber_11 rfl ?_
  refine ca_ireturn h hR rfl dX10_takeNumber_12 ?_
  exact ⟨rfl, rfl, by rw [up_s, up_up]; rfl⟩
set_option maxHeartbeats 100000 in
theorem c_X10_append {l : Launch} {E : ch_E} {S : ch_S} {μ : ch_M} (hs : ch_Std E S) {f : Nat} (hf : μ 15 12 0 0 = nI f) (h7 : f + 4 ≤ 700) {w : Int32} : ch_C E l yX10_append cX10_append 3 none 1 0 0 S μ [.ref (S.1 15 12 0), .int w] (ch_F none S (up μ 15 (t_app (μ 15) w 4))) := by
  refine ch_enter rfl rfl ?_
  intro X hl0 h hG hR hnm
  have h : ch_H X E RX10 cX10_append 3 := h
  show ch_W X E 3 S μ 0 0 0 [(0, .ref (S.1 15 12 0)), (1, .int w)] []
  refine ca_bipush h dX10_append_0 bk_24 ?_
  refine ca_istore_n h dX10_append_2 rfl ?_
  have loop_3 : ∀ (jj n : Nat), n + jj = 4 → ∀ (x2 : Int32) (e2 : x2 = 24 - nI (8 * n)) (hff : (up μ 15 (t_app (μ 15) w n)) 15 12 0 0 = nI (f + n)) (mm : ch_M) (em : mm = up μ 15 (t_app (μ 15) w n)), ch_W X E 3 S mm 0 0 3 [(0, .ref (S.1 15 12 0)), (1, .int w), (2, .int x2)] [] := by
    intro jj
    induction jj with
    | zero =>
      intro n hn x2 e2 hff mm em
      have hn : n = 4 := by omega
      subst e2 em
      refine ca_iload_n h dX10_append_3 rfl ?_
      refine ca_if_lt (tgt := 58) h dX10_append_4 (by decide) (fun c_4 => ?_) (fun c_4 => ?_)
      ·
        refine ca_vreturn h hR dX10_append_58 ?_
        exact ⟨rfl, rfl, by rw [hn]⟩
      · exact absurd (by rw [hn]; decide) c_4
    | succ jj ih_3 =>
      intro n hn x2 e2 hff mm em
      have hn1 : n < 4 := by omega
      subst e2 em
      refine ca_iload_n h dX10_append_3 rfl ?_
      refine ca_if_lt (tgt := 58) h dX10_append_4 (by decide) (fun c_4 => ?_) (fun c_4 => ?_)
      · have h4 : n = 0 ∨ n = 1 ∨ n = 2 ∨ n = 3 := by omega
        rcases h4 with rfl | rfl | rfl | rfl <;> exact absurd c_4 (by decide)
      ·
        refine ca_aload_nr h dX10_append_7 rfl ?_
        refine gi_X10_19 h (hs.1 _ _ _ ⟨rfl, rfl⟩) dX10_append_8 ?_
        refine ca_if_lt (tgt := 52) h dX10_append_11 (by decide) (fun c_11 => ?_) (fun c_11 => ?_)
        · exact absurd c_11 (by rw [hff]; exact nI_pos (by omega))
        ·
          refine ca_aload_nr h dX10_append_14 rfl ?_
          refine gi_X10_19 h (hs.1 _ _ _ ⟨rfl, rfl⟩) dX10_append_15 ?_
          refine ca_aload_nr h dX10_append_18 rfl ?_
          refine gs_X10_15 h hs ⟨rfl, rfl⟩ dX10_append_19 ?_
          refine ca_alen h rfl (by decide) (hs.1 _ _ _ ⟨rfl, rfl⟩) al_700 dX10_append_22 ?_
          refine ca_icmp_ge (tgt := 52) h dX10_append_23 (by decide) (fun c_23 => ?_) (fun c_23 => ?_)
          · exact absurd (by rw [hff]; exact nI_lt (b := 700) (by omega) (by decide)) c_23
          ·
            refine ca_aload_nr h dX10_append_26 rfl ?_
            refine gs_X10_15 h hs ⟨rfl, rfl⟩ dX10_append_27 ?_
            refine ca_aload_nr h dX10_append_30 rfl ?_
            refine gi_X10_19 h (hs.1 _ _ _ ⟨rfl, rfl⟩) dX10_append_31 ?_
            refine ca_iload_n h dX10_append_34 rfl ?_
            refine ca_iload_n h dX10_append_35 rfl ?_
            refine ca_iushr h dX10_append_36 ?_
            refine ca_sipush h dX10_append_37 sk_255 ?_
            refine ca_iand h dX10_append_40 ?_
            refine ca_iast h rfl (hs.1 _ _ _ ⟨rfl, rfl⟩) (by rw [hff]; exact vp_in_nI (by omega) (by decide)) dX10_append_41 ?_
            refine ca_aload_nr h dX10_append_42 rfl ?_
            refine ca_dup h dX10_append_43 rfl ?_
            refine gi_X10_19 h (hs.1 _ _ _ ⟨rfl, rfl⟩) dX10_append_44 ?_
            refine ca_iconst h dX10_append_47 ik_1 ?_
            refine ca_iadd h dX10_append_48 ?_
            refine pi_X10_19 h (hs.1 _ _ _ ⟨rfl, rfl⟩) dX10_append_49 ?_
            refine ca_iinc h dX10_append_52 rfl (v := (-8)) (by decide) rfl ?_
            refine ca_goto (tgt := 3) h dX10_append_55 (by decide) ?_
            refine ca_pick [1, 2, 0] rfl ?_
            exact ih_3 (n + 1) (by omega) _ (by rcases (show n = 0 ∨ n = 1 ∨ n = 2 ∨ n = 3 by omega) with rfl | rfl | rfl | rfl <;> decide) (by rw [up_s, t_app_s, nw_at, if_pos ⟨rfl, rfl, rfl⟩]; rw [up_s] at hff; rw [hff, nI_1]; rfl) _ (by simp only [ch_st_nw, up_s, up_up]; rw [t_app_s, nw_k (show (12 : Nat) ≠ 13 by decide)]; rfl)
  refine ca_pick [1, 2, 0] rfl ?_
  exact loop_3 _ 0 (Nat.zero_add _) _ rfl (by rw [up_s]; exact hf) _ (by show μ = up μ 15 (μ 15); rw [up_id])
