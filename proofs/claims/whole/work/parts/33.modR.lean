/-! THE REFERENCE'S RANKING against the class's -/
def r_pq (p : ch_N) (a b : Nat → Int32) (x : Int32) : ch_N := nw (na (na p 28 0 a) 29 0 b) 22 0 10 x
theorem r_pq_23 (p : ch_N) (a b : Nat → Int32) (x : Int32) : r_pq p a b x 23 = p 23 := by unfold r_pq; rw [nw_k (by decide), na_k (by decide), na_k (by decide)]
theorem r_pq_a (p : ch_N) (a b : Nat → Int32) (x : Int32) : r_pq p a b x 28 0 = a := by funext j; unfold r_pq; simp [nw_at, na_at]
theorem r_pq_b (p : ch_N) (a b : Nat → Int32) (x : Int32) : r_pq p a b x 29 0 = b := by funext j; unfold r_pq; simp [nw_at, na_at]
theorem r_pq_x (p : ch_N) (a b : Nat → Int32) (x : Int32) : r_pq p a b x 22 0 10 = x := by unfold r_pq; simp [nw_at, na_at]
theorem r_pq_28 (p : ch_N) (a b : Nat → Int32) (x : Int32) (j : Nat) (v : Int32) : nw (r_pq p a b x) 28 0 j v = r_pq p (up a j v) b x := by
  funext u i k
  unfold r_pq up
  simp only [nw_at, na_at]
  by_cases h1 : u = 28 ∧ i = 0
  · obtain ⟨rfl, rfl⟩ := h1
    by_cases h2 : k = j <;> simp [h2]
  · have h2 : ¬ (u = 28 ∧ i = 0 ∧ k = j) := fun z => h1 ⟨z.1, z.2.1⟩
    simp only [h1, h2, if_false]
theorem r_pq_29 (p : ch_N) (a b : Nat → Int32) (x : Int32) (j : Nat) (v : Int32) : nw (r_pq p a b x) 29 0 j v = r_pq p a (up b j v) x := by
  funext u i k
  unfold r_pq up
  simp only [nw_at, na_at]
  by_cases h1 : u = 29 ∧ i = 0
  · obtain ⟨rfl, rfl⟩ := h1
    by_cases h2 : k = j <;> simp [h2]
  · have h2 : ¬ (u = 29 ∧ i = 0 ∧ k = j) := fun z => h1 ⟨z.1, z.2.1⟩
    simp only [h1, h2, if_false]
theorem r_pq_10 (p : ch_N) (a b : Nat → Int32) (x y : Int32) : nw (r_pq p a b x) 22 0 10 y = r_pq p a b y := nw_nw _ _ _ _ _ _
theorem r_pq_id (p : ch_N) : r_pq p (p 28 0) (p 29 0) (p 22 0 10) = p := by
  funext u i k
  unfold r_pq
  simp only [nw_at, na_at]
  by_cases h1 : u = 22 ∧ i = 0 ∧ k = 10
  · obtain ⟨rfl, rfl, rfl⟩ := h1; simp
  · rw [if_neg h1]
    by_cases h2 : u = 29 ∧ i = 0
    · obtain ⟨rfl, rfl⟩ := h2; simp
    · rw [if_neg h2]
      by_cases h3 : u = 28 ∧ i = 0
      · obtain ⟨rfl, rfl⟩ := h3; simp
      · rw [if_neg h3]
/-- N cells ranked: the same cells in the same order -/
def r_Q (q : ch_N) (a b : Nat → Int32) (x : Int32) (N : Nat) : Prop := ∃ t, t ≤ N ∧ q 17 0 0 = nI t ∧ x = nI t ∧ ∀ j, j < t → a j = q 18 0 j ∧ ∃ c, c < N ∧ q 18 0 j = nI c ∧ b c = q 19 0 j
theorem r_Q_skip {q : ch_N} {a b : Nat → Int32} {x v : Int32} {N : Nat} (h : r_Q q a b x N) : r_Q q a (up b N v) x (N + 1) := by
  obtain ⟨t, h1, h2, h3, h4⟩ := h
  refine ⟨t, by omega, h2, h3, fun j hj => ?_⟩
  obtain ⟨g1, c, g2, g3, g4⟩ := h4 j hj
  exact ⟨g1, c, by omega, g3, by rw [up_n (by omega)]; exact g4⟩
theorem r_Q_ins {q : ch_N} {a b : Nat → Int32} {x v : Int32} {N t : Nat} (hN : N < 8) (h1 : t ≤ N) (h2 : q 17 0 0 = nI t) (h4 : ∀ j, j < t → a j = q 18 0 j ∧ ∃ c, c < N ∧ q 18 0 j = nI c ∧ b c = q 19 0 j) :
    r_Q (k_ins q (nI N) v) (up (k_sh a (k_sp (q 19 0) v t) t) (k_sp (q 19 0) v t) (nI N)) (up b N v) (nI t + 1) (N + 1) := by
  have hP := k_sp_le (q 19 0) v t
  have ect : Int32.toNatClampNeg (q 17 0 0) = t := by rw [h2]; exact nI_clamp (by omega)
  have e17 : k_ins q (nI N) v 17 0 0 = nI t + 1 := by
    unfold k_ins
    rw [if_pos (by rw [h2]; exact nI_lt (b := 8) (by omega) (by decide)), nw_at, if_pos ⟨rfl, rfl, rfl⟩, h2]
  have e18 : k_ins q (nI N) v 18 0 = up (k_sh (q 18 0) (k_sp (q 19 0) v t) t) (k_sp (q 19 0) v t) (nI N) := by
    funext j
    unfold k_ins up
    rw [if_pos (by rw [h2]; exact nI_lt (b := 8) (by omega) (by decide)), ect]
    simp [nw_at, na_at]
  have e19 : k_ins q (nI N) v 19 0 = up (k_sh (q 19 0) (k_sp (q 19 0) v t) t) (k_sp (q 19 0) v t) v := by
    funext j
    unfold k_ins up
    rw [if_pos (by rw [h2]; exact nI_lt (b := 8) (by omega) (by decide)), ect]
    simp [nw_at, na_at]
  generalize k_sp (q 19 0) v t = P at *
  refine ⟨t + 1, by omega, by rw [e17, nI_1], nI_1 t, fun j hj => ?_⟩
  rw [e18, e19]
  by_cases hjP : j = P
  · subst hjP
    exact ⟨by rw [up_s, up_s], N, by omega, by rw [up_s], by rw [up_s, up_s]⟩
  · rw [up_n hjP, up_n hjP, up_n hjP]
    unfold k_sh
    by_cases hs : P < j ∧ j ≤ t
    · rw [if_pos hs, if_pos hs, if_pos hs]
      obtain ⟨g1, c, g2, g3, g4⟩ := h4 (j - 1) (by omega)
      exact ⟨g1, c, by omega, g3, by rw [up_n (by omega)]; exact g4⟩
    · rw [if_neg hs, if_neg hs, if_neg hs]
      obtain ⟨g1, c, g2, g3, g4⟩ := h4 j (by omega)
      exact ⟨g1, c, by omega, g3, by rw [up_n (by omega)]; exact g4⟩
theorem k_sum_b {n : ch_N} {m a : Nat} : ∀ q, q ≤ 8 → (∀ k, k < q → ¬ n 4 m (a + k) < 0 ∧ ¬ 99 < n 4 m (a + k)) → ∃ z, z ≤ 99 * q ∧ k_sum n m a q = nI z
  | 0, _, _ => ⟨0, Nat.le_refl _, rfl⟩
  | q + 1, hq, h => by
    obtain ⟨z, hz, e⟩ := k_sum_b q (by omega) (fun k hk => h k (by omega))
    obtain ⟨h1, h2⟩ := h q (by omega)
    obtain ⟨j, hj, ej⟩ := nI_of2 (M := 99) (n := 99) (by decide) h1 (Int32.not_lt.mp h2)
    refine ⟨z + j, by omega, ?_⟩
    show k_sum n m a q + n 4 m (a + q) = _
    rw [e, ej, nI_add]
theorem r_avg {n : ch_N} {w : Nat → Int32} (h : r_N n w) {m c : Nat} (hm : m < k_mc n) (ht : n 3 m 4 = 1) (hc : c < 8) : (n 5 m c = 0 ∧ k_avg n m (nI c) = -1) ∨ (0 < n 5 m c ∧ ¬ n 5 m c = 0 ∧ ¬ k_avg n m (nI c) = -1) := by
  have h58 := r_c58 h (show m < 13 by have := r_m12 h hm; omega) hc
  obtain ⟨q, hq, eq⟩ := nI_of h58.1
  have hq8 : q ≤ 8 := by have := h58.2; rw [eq, nI_clamp hq] at this; exact this
  rcases Nat.eq_zero_or_pos q with z | z
  · subst z
    refine Or.inl ⟨eq, ?_⟩
    unfold k_avg
    rw [k_rep_c hc, eq, if_neg (by decide)]
  · have hp : 0 < n 5 m c := by rw [eq]; exact nI_lt (a := 0) z (by omega)
    refine Or.inr ⟨hp, by rw [eq]; exact nI_ne0 z (by omega), ?_⟩
    obtain ⟨s, hs, es⟩ := k_sum_b (n := n) (m := m) (a := 8 * c) q hq8 (fun k hk => (h.2.2.2.2.1 m hm).2.2.2.2.2.2.2.2.2.2.2.2.2 ht c k hc (by rw [eq, nI_clamp (by omega)]; exact hk))
    unfold k_avg
    rw [k_rep_c hc, if_pos hp, eq, nI_clamp (show q < 2 ^ 31 by omega), nI_clamp (show c < 2 ^ 31 by omega), es, pk_div (by omega) z (by omega)]
    exact nI_nm1 (Nat.lt_of_le_of_lt (Nat.div_le_self _ _) (by omega))
def r_RK (n q : ch_N) (m : Nat) (S : ch_S) (μ : ch_M) : Option Value → ch_S → ch_M → Prop := fun v' S' μ' => v' = none ∧ S' = S ∧ ∃ a b x, μ' = up μ 16 (r_pq (μ 16) a b x) ∧ r_Q (k_rank n q m) a b x (k_cc n)
set_option maxHeartbeats 100000 in
theorem c_X12_rank {l : Launch} {E : ch_E} {S : ch_S} {μ : ch_M} (hs : ch_Std E S) {n : ch_N} (hN : r_N n (μ 16 23 0)) {q : ch_N} {m : Nat} (hm : m < k_mc n) (ht : n 3 m 4 = 1) : ch_C E l yX12_rank cX12_rank 5 none 5 0 0 S μ [.ref (S.1 16 22 0), .int (nI m)] (r_RK n q m S μ) := by
  refine ch_enter rfl rfl ?_
  intro X hl0 h hG hR hnm
  have h : ch_H X E RX12 cX12_rank 5 := h
  have hm12 := r_m12 hN hm
  obtain ⟨s, hsc, h5⟩ := r_sv hN hm ht
  have hs8 := r_c8 hN hsc
  have hcc := hN.2.2.2.2.2.2.1
  show ch_W X E 5 S μ 0 0 0 [(0, .ref (S.1 16 22 0)), (1, .int (nI m))] []
  refine ca_aload_nr h dX12_rank_0 rfl ?_
  refine ca_iconst h dX12_rank_1 ik_0 ?_
  refine pi_X12_207 h (hs.1 _ _ _ ⟨rfl, rfl⟩) dX12_rank_2 ?_
  refine ca_mem (μ'' := up μ 16 (r_pq (μ 16) (μ 16 28 0) (μ 16 29 0) 0)) (by rw [ch_st_nw]; congr 1; rw [← r_pq_10 _ _ _ (μ 16 22 0 10), r_pq_id]) ?_
  refine ca_aload_nr h dX12_rank_5 rfl ?_
  refine ca_iload_n h dX12_rank_6 rfl ?_
  refine ca_aload_nr h dX12_rank_7 rfl ?_
  refine ca_iload_n h dX12_rank_8 rfl ?_
  refine ca_iconst h dX12_rank_9 ik_5 ?_
  refine ca_vi h hG ml_X12_77 (c_X12_of hs hm12 (by decide)) (ci := 12) rfl rfl rfl (hs.1 _ _ _ ⟨rfl, rfl⟩) rfl rfl rfl rfl ⟨Nat.le_refl _, Nat.le_refl _⟩ rfl dX12_rank_10 ?_
  refine ca_top (show _ = nI s by rw [up_s, r_pq_23, r_f hN hm (f := 5) (by decide), h5]) ?_
  refine ca_vi h hG ml_X12_154 (c_X12_reportsOf hs hm12 hs8) (ci := 12) rfl rfl rfl (hs.1 _ _ _ ⟨rfl, rfl⟩) rfl rfl rfl rfl ⟨Nat.le_refl _, Nat.le_refl _⟩ rfl dX12_rank_13 ?_
  refine ca_top (show _ = n 5 m s by rw [up_s, r_pq_23, r_ct hN hm ht hs8]) ?_
  refine ca_if_ne (tgt := 20) h dX12_rank_16 (by decide) (fun c_16 => ?_) (fun c_16 => ?_)
  ·
    obtain ⟨q0, hq0⟩ : ∃ z, z = nw (nw q 17 0 0 0) 17 0 1 (k_em n m) := ⟨_, rfl⟩
    rcases r_avg hN hm ht hs8 with ⟨z1, -⟩ | ⟨hp, -, hav⟩
    · exact absurd z1 c_16
    have er : k_rank n q m = k_rkL n (k_em n m) m (k_cc n) q0 := by unfold k_rank; rw [h5, if_neg hav, hq0]
    refine ca_aload_nr h dX12_rank_20 rfl ?_
    refine ca_iload_n h dX12_rank_21 rfl ?_
    refine ca_vi h hG ml_X12_210 (c_X12_isEmergency hs (by rw [up_s, r_pq_23]; exact hN) hm ht hsc h5 hp) (ci := 12) rfl rfl rfl (hs.1 _ _ _ ⟨rfl, rfl⟩) rfl rfl rfl rfl ⟨Nat.le_refl _, Nat.le_refl _⟩ rfl dX12_rank_22 ?_
    refine ca_istore_n h dX12_rank_25 rfl ?_
    refine ca_iconst h dX12_rank_26 ik_0 ?_
    refine ca_istore_n h dX12_rank_27 rfl ?_
    have loop_28 : ∀ (jj j : Nat), j + jj = k_cc n → ∀ (x3 : Int32) (e3 : x3 = nI j) (f28 : Nat → Int32) (f29 : Nat → Int32) (xc : Int32) (hq : r_Q (k_rkL n (k_em n m) m j q0) f28 f29 xc j) (mm : ch_M) (em : mm = up μ 16 (r_pq (μ 16) f28 f29 xc)), ch_W X E 5 S mm 0 0 28 [(0, .ref (S.1 16 22 0)), (1, .int (nI m)), (2, .int (k_em n m)), (3, .int x3)] [] := by
      intro jj
      induction jj with
      | zero =>
        intro j hn x3 e3 f28 f29 xc hq mm em
        have hn : j = k_cc n := by omega
        subst e3 em
        refine ca_iload_n h dX12_rank_28 rfl ?_
        refine ca_aload_nr h dX12_rank_29 rfl ?_
        refine gs_X12_9 h hs ⟨rfl, rfl⟩ dX12_rank_30 ?_
        refine ca_iconst h dX12_rank_33 ik_0 ?_
        refine ca_iald h rfl (hs.1 _ _ _ ⟨rfl, rfl⟩) (vp_in_nI (n := 0) (N := 1302) (by decide) (by decide)) dX12_rank_34 ?_
        refine ca_icmp_ge (tgt := 143) h dX12_rank_35 (by decide) (fun c_35 => ?_) (fun c_35 => ?_)
        ·
          refine ca_vreturn h hR dX12_rank_143 ?_
          exact ⟨rfl, rfl, f28, f29, xc, rfl, by rw [er, ← hn]; exact hq⟩
        · exact absurd c_35 (by rw [up_s, r_pq_23]; exact lt_no (show k_cc n = Int32.toNatClampNeg (μ 16 23 0 (Int32.toNatClampNeg 0)) from r_cc hN) hn)
      | succ jj ih_28 =>
        intro j hn x3 e3 f28 f29 xc hq mm em
        have hn1 : j < k_cc n := by omega
        subst e3 em
        have hj8 : j < 8 := by omega
        refine ca_iload_n h dX12_rank_28 rfl ?_
        refine ca_aload_nr h dX12_rank_29 rfl ?_
        refine gs_X12_9 h hs ⟨rfl, rfl⟩ dX12_rank_30 ?_
        refine ca_iconst h dX12_rank_33 ik_0 ?_
        refine ca_iald h rfl (hs.1 _ _ _ ⟨rfl, rfl⟩) (vp_in_nI (n := 0) (N := 1302) (by decide) (by decide)) dX12_rank_34 ?_
        refine ca_icmp_ge (tgt := 143) h dX12_rank_35 (by decide) (fun c_35 => ?_) (fun c_35 => ?_)
        · exact absurd (by rw [up_s, r_pq_23]; exact lt_yes (show k_cc n = Int32.toNatClampNeg (μ 16 23 0 (Int32.toNatClampNeg 0)) from r_cc hN) hn1) c_35
        ·
          refine ca_aload_nr h dX12_rank_38 rfl ?_
          refine gs_X12_28 h hs ⟨rfl, rfl⟩ dX12_rank_39 ?_
          refine ca_iload_n h dX12_rank_42 rfl ?_
          refine ca_aload_nr h dX12_rank_43 rfl ?_
          refine ca_iload_n h dX12_rank_44 rfl ?_
          refine ca_iload_n h dX12_rank_45 rfl ?_
          refine ca_iload_n h dX12_rank_46 rfl ?_
          refine ca_vi h hG ml_X12_213 (c_X12_marginOf hs (by rw [up_s, r_pq_23]; exact hN) hm ht hsc h5 hp (by assumption)) (ci := 12) rfl rfl rfl (hs.1 _ _ _ ⟨rfl, rfl⟩) rfl rfl rfl rfl ⟨Nat.le_refl _, Nat.le_refl _⟩ rfl dX12_rank_47 ?_
          refine ca_iast h rfl (hs.1 _ _ _ ⟨rfl, rfl⟩) (vp_in_nI (by omega) (by decide)) dX12_rank_50 ?_
          obtain ⟨V, hV⟩ : ∃ z, z = (k_max 0 (k_mg n (k_em n m) m (nI j))) := ⟨_, rfl⟩
          refine ca_mem (μ'' := up μ 16 (r_pq (μ 16) f28 (up f29 j V) xc)) (by rw [ch_st_nw, up_s, up_up, nI_clamp (by omega), r_pq_29, hV]) ?_
          have hV0 : 0 < k_mg n (k_em n m) m (nI j) → ¬ V = 0 := fun z => by rw [hV]; unfold k_max; rw [if_pos z]; exact fun y => by rw [y] at z; exact absurd z (by decide)
          refine ca_aload_nr h dX12_rank_51 rfl ?_
          refine gs_X12_28 h hs ⟨rfl, rfl⟩ dX12_rank_52 ?_
          refine ca_iload_n h dX12_rank_55 rfl ?_
          refine ca_iald h rfl (hs.1 _ _ _ ⟨rfl, rfl⟩) (vp_in_nI (by omega) (by decide)) dX12_rank_56 ?_
          refine ca_top (show _ = V by rw [up_s, r_pq_b, nI_clamp (by omega), up_s]) ?_
          refine ca_if_ne (tgt := 63) h dX12_rank_57 (by decide) (fun c_57 => ?_) (fun c_57 => ?_)
          ·
            have hVp : 0 < k_mg n (k_em n m) m (nI j) := Classical.byContradiction fun z => c_57 (by rw [hV]; unfold k_max; rw [if_neg z])
            have hVe : V = k_mg n (k_em n m) m (nI j) := by rw [hV]; unfold k_max; rw [if_pos hVp]
            obtain ⟨t, ht8, e17, ex, hall⟩ := hq
            obtain ⟨q1, hq1⟩ : ∃ z, z = k_rkL n (k_em n m) m j q0 := ⟨_, rfl⟩
            rw [← hq1] at e17 hall
            refine ca_aload_nr h dX12_rank_63 rfl ?_
            refine gi_X12_207 h (hs.1 _ _ _ ⟨rfl, rfl⟩) dX12_rank_64 ?_
            refine ca_top (show _ = nI t by rw [up_s, r_pq_x, ex]) ?_
            refine ca_istore h dX12_rank_67 rfl ?_
            have K_119 : ∀ (a : Nat) (_ : a ≤ t) (_ : k_sp (q1 19 0) V t = a), ch_W X E 5 S (up μ 16 (r_pq (μ 16) (k_sh f28 a t) (up f29 j V) xc)) 0 0 119 [(0, .ref (S.1 16 22 0)), (1, .int (nI m)), (2, .int (k_em n m)), (3, .int (nI j)), (4, .int (nI a))] [] := by
              intro a hat ha
              refine ca_aload_nr h dX12_rank_119 rfl ?_
              refine gs_X12_25 h hs ⟨rfl, rfl⟩ dX12_rank_120 ?_
              refine ca_iload h dX12_rank_123 rfl ?_
              refine ca_iload_n h dX12_rank_125 rfl ?_
              refine ca_iast h rfl (hs.1 _ _ _ ⟨rfl, rfl⟩) (vp_in_nI (by omega) (by decide)) dX12_rank_126 ?_
              refine ca_aload_nr h dX12_rank_127 rfl ?_
              refine ca_dup h dX12_rank_128 rfl ?_
              refine gi_X12_207 h (hs.1 _ _ _ ⟨rfl, rfl⟩) dX12_rank_129 ?_
              refine ca_iconst h dX12_rank_132 ik_1 ?_
              refine ca_iadd h dX12_rank_133 ?_
              refine pi_X12_207 h (hs.1 _ _ _ ⟨rfl, rfl⟩) dX12_rank_134 ?_
              refine ca_iinc h dX12_rank_137 rfl ik_1 rfl ?_
              refine ca_goto (tgt := 28) h dX12_rank_140 (by decide) ?_
              refine ca_pick [1, 2, 3, 0] rfl ?_
              exact ih_28 (j + 1) (by omega) _ (nI_1 j) (up (k_sh f28 a t) a (nI j)) (up f29 j V) (nI t + 1) (by
                have e9 : k_rkL n (k_em n m) m (j + 1) q0 = k_ins q1 (nI j) V := by rw [hq1, hVe]; exact if_pos hVp
                rw [e9, ← ha]; exact r_Q_ins (x := xc) hj8 ht8 e17 hall) _ (by simp only [ch_st_nw, up_s, up_up]; rw [nI_clamp (by omega), r_pq_28, r_pq_10, r_pq_x, ex])
            have loop_69 : ∀ (jj i : Nat), i + jj = t → ∀ (x4 : Int32) (e4 : x4 = nI jj) (hsp : k_sp (q1 19 0) V t = k_sp (q1 19 0) V jj) (mm : ch_M) (em : mm = up μ 16 (r_pq (μ 16) (k_sh f28 jj t) (up f29 j V) xc)), ch_W X E 5 S mm 0 0 69 [(0, .ref (S.1 16 22 0)), (1, .int (nI m)), (2, .int (k_em n m)), (3, .int (nI j)), (4, .int x4)] [] := by
              intro jj
              induction jj with
              | zero =>
                intro i hn x4 e4 hsp mm em
                have hn : i = t := by omega
                subst e4 em
                refine ca_iload h dX12_rank_69 rfl ?_
                refine ca_if_le (tgt := 119) h dX12_rank_71 (by decide) (fun c_71 => ?_) (fun c_71 => ?_)
                ·
                  refine ca_pick [0, 1, 2, 3, 4] rfl ?_
                  exact K_119 0 (by omega) (by rw [hsp]; rfl)
                · exact absurd c_71 (by decide)
              | succ jj ih_69 =>
                intro i hn x4 e4 hsp mm em
                have hn1 : i < t := by omega
                subst e4 em
                obtain ⟨g1, c1, g2, g3, g4⟩ := hall jj (by omega)
                refine ca_iload h dX12_rank_69 rfl ?_
                refine ca_if_le (tgt := 119) h dX12_rank_71 (by decide) (fun c_71 => ?_) (fun c_71 => ?_)
                · exact absurd (nI_lt (a := 0) (Nat.succ_pos jj) (by omega)) c_71
                ·
                  refine ca_aload_nr h dX12_rank_74 rfl ?_
                  refine gs_X12_28 h hs ⟨rfl, rfl⟩ dX12_rank_75 ?_
                  refine ca_aload_nr h dX12_rank_78 rfl ?_
                  refine gs_X12_25 h hs ⟨rfl, rfl⟩ dX12_rank_79 ?_
                  refine ca_iload h dX12_rank_82 rfl ?_
                  refine ca_iconst h dX12_rank_84 ik_1 ?_
                  refine ca_isub h dX12_rank_85 ?_
                  refine ca_top (nI_pred jj) ?_
                  refine ca_iald h rfl (hs.1 _ _ _ ⟨rfl, rfl⟩) (vp_in_nI (by omega) (by decide)) dX12_rank_86 ?_
                  refine ca_top (show _ = nI c1 by rw [up_s, r_pq_a, nI_clamp (by omega)]; unfold k_sh; rw [if_neg (by omega), g1, g3]) ?_
                  refine ca_iald h rfl (hs.1 _ _ _ ⟨rfl, rfl⟩) (vp_in_nI (by omega) (by decide)) dX12_rank_87 ?_
                  refine ca_top (show _ = q1 19 0 jj by rw [up_s, r_pq_b, nI_clamp (by omega), up_n (by omega), g4]) ?_
                  refine ca_aload_nr h dX12_rank_88 rfl ?_
                  refine gs_X12_28 h hs ⟨rfl, rfl⟩ dX12_rank_89 ?_
                  refine ca_iload_n h dX12_rank_92 rfl ?_
                  refine ca_iald h rfl (hs.1 _ _ _ ⟨rfl, rfl⟩) (vp_in_nI (by omega) (by decide)) dX12_rank_93 ?_
                  refine ca_top (show _ = V by rw [up_s, r_pq_b, nI_clamp (by omega), up_s]) ?_
                  refine ca_icmp_ge (tgt := 119) h dX12_rank_94 (by decide) (fun c_94 => ?_) (fun c_94 => ?_)
                  ·
                    refine ca_pick [0, 1, 2, 3, 4] rfl ?_
                    exact K_119 (jj + 1) (by omega) (by rw [hsp, k_sp, if_neg c_94])
                  ·
                    refine ca_aload_nr h dX12_rank_97 rfl ?_
                    refine gs_X12_25 h hs ⟨rfl, rfl⟩ dX12_rank_98 ?_
                    refine ca_iload h dX12_rank_101 rfl ?_
                    refine ca_aload_nr h dX12_rank_103 rfl ?_
                    refine gs_X12_25 h hs ⟨rfl, rfl⟩ dX12_rank_104 ?_
                    refine ca_iload h dX12_rank_107 rfl ?_
                    refine ca_iconst h dX12_rank_109 ik_1 ?_
                    refine ca_isub h dX12_rank_110 ?_
                    refine ca_top (nI_pred jj) ?_
                    refine ca_iald h rfl (hs.1 _ _ _ ⟨rfl, rfl⟩) (vp_in_nI (by omega) (by decide)) dX12_rank_111 ?_
                    refine ca_top (show _ = k_sh f28 (jj + 1) t jj by rw [up_s, r_pq_a, nI_clamp (by omega)]) ?_
                    refine ca_iast h rfl (hs.1 _ _ _ ⟨rfl, rfl⟩) (vp_in_nI (by omega) (by decide)) dX12_rank_112 ?_
                    refine ca_iinc h dX12_rank_113 rfl ik_m1 rfl ?_
                    refine ca_goto (tgt := 69) h dX12_rank_116 (by decide) ?_
                    refine ca_pick [1, 2, 3, 4, 0] rfl ?_
                    exact ih_69 (i + 1) (by omega) _ (pk_m1 jj) (by rw [hsp, k_sp, if_pos c_94]) _ (by rw [ch_st_nw, up_s, up_up, nI_clamp (by omega), r_pq_28, k_sh_s f28 (show jj < t by omega)])
            refine ca_pick [1, 2, 3, 4, 0] rfl ?_
            exact loop_69 t 0 (Nat.zero_add _) _ rfl rfl _ (by rw [k_sh_0])
          ·
            refine ca_goto (tgt := 137) h dX12_rank_60 (by decide) ?_
            refine ca_iinc h dX12_rank_137 rfl ik_1 rfl ?_
            refine ca_goto (tgt := 28) h dX12_rank_140 (by decide) ?_
            refine ca_pick [1, 2, 3, 0] rfl ?_
            exact ih_28 (j + 1) (by omega) _ (nI_1 j) f28 (up f29 j 0) xc (by
              have e9 : k_rkL n (k_em n m) m (j + 1) q0 = k_rkL n (k_em n m) m j q0 := if_neg (fun z => hV0 z c_57)
              rw [e9]; exact r_Q_skip hq) _ (by rw [show (0 : Int32) = V from c_57.symm])
    refine ca_pick [2, 3, 1, 0] rfl ?_
    exact loop_28 _ 0 (Nat.zero_add _) _ rfl _ _ _ ⟨0, Nat.le_refl _, by rw [show k_rkL n (k_em n m) m 0 q0 = q0 from rfl, hq0]; simp [nw_at]; rfl, rfl, fun j hj => absurd hj (Nat.not_lt_zero _)⟩ _ rfl
  ·
    refine ca_vreturn h hR dX12_rank_19 ?_
    rcases r_avg hN hm ht hs8 with ⟨-, hav⟩ | ⟨-, z1, -⟩
    · exact ⟨rfl, rfl, _, _, _, rfl, 0, Nat.zero_le _, by unfold k_rank; rw [h5, if_pos hav]; simp [nw_at]; rfl, rfl, fun j hj => absurd hj (Nat.not_lt_zero _)⟩
    · exact absurd c_16 z1
