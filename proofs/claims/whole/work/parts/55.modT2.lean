/-! THE REFERENCE'S READING of a token: what it keeps of the class's text q -/
theorem t_at_congr {b b' : Nat → Int32} {e : Nat} (h : ∀ i, i < e → b i = b' i) : t_at b e = t_at b' e := by
  funext i
  unfold t_at
  by_cases g : i < e
  · rw [if_pos g, if_pos g, h i g]
  · rw [if_neg g, if_neg g]
theorem t_k_congr {b b' : Nat → Int32} {e : Nat} (h : ∀ i, i < e → b i = b' i) : t_k b e = t_k b' e := by funext i; unfold t_k; rw [t_at_congr h]
theorem t_rn_congr {b b' : Nat → Int32} {e : Nat} (h : ∀ i, i < e → b i = b' i) (k : Int32) : ∀ j i, t_rn b e k j i = t_rn b' e k j i
  | 0, _ => rfl
  | j + 1, i => by rw [t_rn_s, t_rn_s, t_k_congr h, t_rn_congr h k j (i + 1)]
theorem t_ns_congr {b b' : Nat → Int32} {e : Nat} (h : ∀ i, i < e → b i = b' i) (n : Nat) : t_ns b e n = t_ns b' e n := t_rn_congr h _ _ _
theorem t_nn_congr {b b' : Nat → Int32} {e : Nat} (h : ∀ i, i < e → b i = b' i) (s : Nat) : t_nn b e s = t_nn b' e s := by unfold t_nn; rw [t_k_congr h, t_rn_congr h]
theorem t_rn_all (b : Nat → Int32) (e : Nat) (k : Int32) : ∀ j i m, i ≤ m → m < t_rn b e k j i → t_k b e m = k
  | 0, i, m, h1, h2 => absurd h2 (by unfold t_rn; omega)
  | j + 1, i, m, h1, h2 => by
    rw [t_rn_s] at h2
    split at h2
    · rename_i hk
      by_cases g : i = m
      · rw [← g]; exact hk
      · exact t_rn_all b e k j (i + 1) m (by omega) h2
    · omega
def r_X0 (q p : ch_N) : Prop := p 22 0 13 = q 12 0 4 ∧ p 22 0 14 = q 12 0 6 ∧ p 22 0 17 = q 12 0 1 ∧ ∀ i, i < t_e q → p 30 0 i = q 13 0 i ∧ ∃ b, b < 256 ∧ q 13 0 i = nI b
def r_X1 (q p : ch_N) : Prop := r_X0 q p ∧ k_tx q ∧ p 22 0 15 = q 12 0 5 ∧ p 22 0 16 = r_tok (q 12 0 7) ∧ (¬ q 12 0 1 = 0 → p 22 0 18 = q 12 0 5) ∧ (q 12 0 7 = t_k (q 13 0) (t_e q) (t_s q) ∧ ¬ q 12 0 7 = 3 ∧ t_n q = t_nn (q 13 0) (t_e q) (t_s q))
def r_tf (p p' : ch_N) : Prop := (∀ kd, kd ≠ 22 → p' kd = p kd) ∧ ∀ j, j < 13 ∨ 18 < j → p' 22 0 j = p 22 0 j
theorem r_tf_id (p : ch_N) : r_tf p p := ⟨fun _ _ => rfl, fun _ _ => rfl⟩
theorem r_tf_tr {p p' p2 : ch_N} (h : r_tf p p') (h2 : r_tf p' p2) : r_tf p p2 := ⟨fun kd hk => (h2.1 kd hk).trans (h.1 kd hk), fun j hj => (h2.2 j hj).trans (h.2 j hj)⟩
theorem r_tf_nw {p : ch_N} {j : Nat} {v : Int32} (hj : 13 ≤ j ∧ j ≤ 18) : r_tf p (nw p 22 0 j v) := ⟨fun kd hk => nw_k hk, fun i hi => by rw [nw_at, if_neg (by omega)]⟩
theorem r_tf_ts {p : ch_N} {s n : Nat} {k : Int32} : r_tf p (r_ts p s n k) := r_tf_tr (r_tf_tr (r_tf_nw (by omega)) (r_tf_nw (by omega))) (r_tf_nw (by omega))
def r_V (v : Option Value) (q' : ch_N) (S : ch_S) (μ : ch_M) : Option Value → ch_S → ch_M → Prop := ch_FX v S (fun μ' => ∃ p', μ' = up μ 16 p' ∧ r_X1 q' p' ∧ r_tf (μ 16) p')
theorem r_ts_at (p : ch_N) (s n : Nat) (k : Int32) (j : Nat) : (r_ts p s n k) 22 0 j = if j = 16 then k else if j = 14 then nI n else if j = 15 then nI s else p 22 0 j := by
  unfold r_ts r_n2
  simp only [nw_at]
  by_cases h1 : j = 16
  · subst h1; simp
  by_cases h2 : j = 14
  · subst h2; simp
  by_cases h3 : j = 15
  · subst h3; simp
  simp [h1, h2, h3]
theorem t_adv_e (q : ch_N) : t_e (t_adv q) = t_e q := by
  unfold t_e t_adv
  split
  · rfl
  · rw [t_st_at]; simp
theorem t_adv_13 (q : ch_N) : (t_adv q) 13 = q 13 := by
  unfold t_adv
  split
  · rfl
  · exact t_st_13 _ _ _ _
theorem t_adv_1 (q : ch_N) : (t_adv q) 12 0 1 = q 12 0 1 := by
  unfold t_adv
  split
  · rfl
  · rw [t_st_at]; simp
theorem r_X_adv {q p : ch_N} (h : r_X0 q p) (hk : k_tn q) (he : q 12 0 1 = 0) : r_X1 (t_adv q) (r_ts p (t_ns (p 30 0) (t_e q) (t_n q)) (t_nn (p 30 0) (t_e q) (t_ns (p 30 0) (t_e q) (t_n q))) (r_tok (t_k (p 30 0) (t_e q) (t_ns (p 30 0) (t_e q) (t_n q))))) := by
  have hb : ∀ i, i < t_e q → p 30 0 i = q 13 0 i := fun i hi => (h.2.2.2 i hi).1
  rw [t_ns_congr hb, t_nn_congr hb, t_k_congr hb]
  have hx := k_tx_adv0 hk he
  have ea : t_adv q = t_st q (t_ns (q 13 0) (t_e q) (t_n q)) (t_nn (q 13 0) (t_e q) (t_ns (q 13 0) (t_e q) (t_n q))) (t_k (q 13 0) (t_e q) (t_ns (q 13 0) (t_e q) (t_n q))) := by unfold t_adv; rw [if_neg (fun z => z he)]
  have hns := t_ns_le (b := q 13 0) hk.2.2.2
  have hnn := t_nn_le (b := q 13 0) hns.1
  have hst := t_rn_stop (q 13 0) (t_e q) 3 (t_e q - t_n q) (t_n q) (by have := hk.2.2.2; omega)
  have h700 := hk.2.1
  have e7 : (t_adv q) 12 0 7 = t_k (q 13 0) (t_e q) (t_ns (q 13 0) (t_e q) (t_n q)) := by rw [ea, t_st_at]; simp
  have e6 : (t_adv q) 12 0 6 = nI (t_nn (q 13 0) (t_e q) (t_ns (q 13 0) (t_e q) (t_n q))) := by rw [ea, t_st_at]; simp
  have e5 : (t_adv q) 12 0 5 = nI (t_ns (q 13 0) (t_e q) (t_n q)) := by rw [ea, t_st_at]; simp
  have e4 : (t_adv q) 12 0 4 = q 12 0 4 := by rw [ea, t_st_at]; simp
  have es : t_s (t_adv q) = t_ns (q 13 0) (t_e q) (t_n q) := by unfold t_s; rw [e5]; exact nI_clamp (by omega)
  have en : t_n (t_adv q) = t_nn (q 13 0) (t_e q) (t_ns (q 13 0) (t_e q) (t_n q)) := by unfold t_n; rw [e6]; exact nI_clamp (by omega)
  refine ⟨⟨by rw [e4, r_ts_at]; simp; exact h.1, by rw [e6, r_ts_at]; simp, by rw [t_adv_1, r_ts_at]; simp; exact h.2.2.1, fun i hi => ?_⟩, hx, by rw [e5, r_ts_at]; simp, by rw [e7, r_ts_at]; simp, fun z => absurd (by rw [t_adv_1]; exact he) z, ?_, ?_, ?_⟩
  · rw [t_adv_e] at hi
    rw [t_adv_13, r_tf_ts.1 30 (by decide)]
    exact h.2.2.2 i hi
  · rw [e7, t_adv_13, t_adv_e, es]
  · rw [e7]
    rcases hst with z | z
    · exact z
    · rw [show t_ns (q 13 0) (t_e q) (t_n q) = t_e q from z]
      unfold t_k
      rw [t_at_e _ (Nat.le_refl _)]
      decide
  · rw [en, t_adv_13, t_adv_e, es]
theorem r_X_fail {q p : ch_N} {c : Int32} (h : r_X1 q p) (h0 : q 12 0 1 = 0) : r_X1 (t_fail q c) (nw (nw p 22 0 17 c) 22 0 18 (q 12 0 5)) := by
  have ef : t_fail q c = nw q 12 0 1 c := by unfold t_fail; rw [if_pos h0]
  obtain ⟨⟨a1, a2, a3, a4⟩, b, c1, c2, c3, d1, d2, d3⟩ := h
  have e1 : t_e (t_fail q c) = t_e q := by unfold t_e; rw [t_fail_at (by decide)]
  have e2 : t_s (t_fail q c) = t_s q := by unfold t_s; rw [t_fail_at (by decide)]
  have e3 : t_n (t_fail q c) = t_n q := by unfold t_n; rw [t_fail_at (by decide)]
  refine ⟨⟨?_, ?_, ?_, fun i hi => ?_⟩, k_tx_fail b, ?_, ?_, fun _ => ?_, ?_, ?_, ?_⟩
  · rw [nw_at, if_neg (by omega), nw_at, if_neg (by omega), t_fail_at (by decide)]; exact a1
  · rw [nw_at, if_neg (by omega), nw_at, if_neg (by omega), t_fail_at (by decide)]; exact a2
  · rw [nw_at, if_neg (by omega), nw_at, if_pos ⟨rfl, rfl, rfl⟩, ef, nw_at, if_pos ⟨rfl, rfl, rfl⟩]
  · rw [nw_k (by decide), nw_k (by decide), t_fail_13]; rw [e1] at hi; exact a4 i hi
  · rw [nw_at, if_neg (by omega), nw_at, if_neg (by omega), t_fail_at (by decide)]; exact c1
  · rw [nw_at, if_neg (by omega), nw_at, if_neg (by omega), t_fail_at (by decide)]; exact c2
  · rw [nw_at, if_pos ⟨rfl, rfl, rfl⟩, t_fail_at (by decide)]
  · rw [t_fail_at (by decide), t_fail_13, e1, e2]; exact d1
  · rw [t_fail_at (by decide)]; exact d2
  · rw [e3, t_fail_13, e1, e2]; exact d3
def r_chk (q : ch_N) (v c : Int32) : ch_N := if v = 0 then t_fail q c else q
set_option maxHeartbeats 100000 in
theorem c_X12_fail {l : Launch} {E : ch_E} {S : ch_S} {μ : ch_M} (hs : ch_Std E S) {q : ch_N} (hX : r_X1 q (μ 16)) {c : Int32} : ch_C E l yX12_fail cX12_fail 2 none 1 0 0 S μ [.ref (S.1 16 22 0), .int c] (r_V none (t_fail q c) S μ) := by
  refine ch_enter rfl rfl ?_
  intro X hl0 h hG hR hnm
  have h : ch_H X E RX12 cX12_fail 2 := h
  obtain ⟨⟨x1, x2, x3, x4⟩, x5, x6, x7, x8, x9, x10, x11⟩ := id hX
  show ch_W X E 2 S μ 0 0 0 [(0, .ref (S.1 16 22 0)), (1, .int c)] []
  refine ca_aload_nr h dX12_fail_0 rfl ?_
  refine gi_X12_301 h (hs.1 _ _ _ ⟨rfl, rfl⟩) dX12_fail_1 ?_
  rw [x3]
  refine ca_if_ne (tgt := 20) h dX12_fail_4 (by decide) (fun c_4 => ?_) (fun c_4 => ?_)
  ·
    refine ca_vreturn h hR dX12_fail_20 ?_
    exact ⟨rfl, rfl, _, (up_id μ 16).symm, by unfold t_fail; rw [if_neg c_4]; exact hX, r_tf_id _⟩
  ·
    refine ca_aload_nr h dX12_fail_7 rfl ?_
    refine ca_iload_n h dX12_fail_8 rfl ?_
    refine pi_X12_301 h (hs.1 _ _ _ ⟨rfl, rfl⟩) dX12_fail_9 ?_
    refine ca_aload_nr h dX12_fail_12 rfl ?_
    refine ca_aload_nr h dX12_fail_13 rfl ?_
    refine gi_X12_289 h (hs.1 _ _ _ ⟨rfl, rfl⟩) dX12_fail_14 ?_
    refine pi_X12_310 h (hs.1 _ _ _ ⟨rfl, rfl⟩) dX12_fail_17 ?_
    refine ca_vreturn h hR dX12_fail_20 ?_
    refine ⟨rfl, rfl, _, by simp only [ch_st_nw, up_s, up_up]; rfl, ?_, r_tf_tr (r_tf_nw (by omega)) (r_tf_nw (by omega))⟩
    have h9 := r_X_fail (c := c) hX c_4
    rw [← x6] at h9
    rw [show nw (μ 16) 22 0 17 c 22 0 15 = μ 16 22 0 15 by rw [nw_at, if_neg (by omega)]]
    exact h9
set_option maxHeartbeats 100000 in
theorem c_X12_check {l : Launch} {E : ch_E} {S : ch_S} {μ : ch_M} (hs : ch_Std E S) {q : ch_N} (hX : r_X1 q (μ 16)) {v c : Int32} : ch_C E l yX12_check cX12_check 3 none 2 0 0 S μ [.ref (S.1 16 22 0), .int v, .int c] (r_V none (r_chk q v c) S μ) := by
  refine ch_enter rfl rfl ?_
  intro X hl0 h hG hR hnm
  have h : ch_H X E RX12 cX12_check 3 := h
  show ch_W X E 3 S μ 0 0 0 [(0, .ref (S.1 16 22 0)), (1, .int v), (2, .int c)] []
  refine ca_iload_n h dX12_check_0 rfl ?_
  refine ca_if_ne (tgt := 9) h dX12_check_1 (by decide) (fun c_1 => ?_) (fun c_1 => ?_)
  ·
    refine ca_vreturn h hR dX12_check_9 ?_
    exact ⟨rfl, rfl, _, (up_id μ 16).symm, by unfold r_chk; rw [if_neg c_1]; exact hX, r_tf_id _⟩
  ·
    refine ca_aload_nr h dX12_check_4 rfl ?_
    refine ca_iload_n h dX12_check_5 rfl ?_
    refine ca_vXv h hG ml_X12_313 (c_X12_fail hs hX) (ci := 12) rfl rfl rfl (hs.1 _ _ _ ⟨rfl, rfl⟩) rfl rfl rfl rfl ⟨Nat.le_refl _, Nat.le_refl _⟩ rfl dX12_check_6 ?_
    intro μ9 hμ9
    obtain ⟨p, rfl, hX9, hf⟩ := hμ9
    refine ca_vreturn h hR dX12_check_9 ?_
    exact ⟨rfl, rfl, p, rfl, by unfold r_chk; rw [if_pos c_1]; exact hX9, hf⟩
set_option maxHeartbeats 100000 in
theorem c_X12_advance {l : Launch} {E : ch_E} {S : ch_S} {μ : ch_M} (hs : ch_Std E S) {q : ch_N} (hX : r_X1 q (μ 16)) : ch_C E l yX12_advance cX12_advance 1 none 4 0 0 S μ [.ref (S.1 16 22 0)] (r_V none (t_adv q) S μ) := by
  refine ch_enter rfl rfl ?_
  intro X hl0 h hG hR hnm
  have h : ch_H X E RX12 cX12_advance 1 := h
  obtain ⟨⟨x1, x2, x3, x4⟩, x5, x6, x7, x8, x9, x10, x11⟩ := id hX
  show ch_W X E 1 S μ 0 0 0 [(0, .ref (S.1 16 22 0))] []
  refine ca_aload_nr h dX12_advance_0 rfl ?_
  refine gi_X12_301 h (hs.1 _ _ _ ⟨rfl, rfl⟩) dX12_advance_1 ?_
  rw [x3]
  refine ca_if_ne (tgt := 11) h dX12_advance_4 (by decide) (fun c_4 => ?_) (fun c_4 => ?_)
  ·
    refine ca_vreturn h hR dX12_advance_11 ?_
    exact ⟨rfl, rfl, _, (up_id μ 16).symm, by unfold t_adv; rw [if_pos c_4]; exact hX, r_tf_id _⟩
  ·
    refine ca_aload_nr h dX12_advance_7 rfl ?_
    refine ca_vv h hG ml_X12_307 (c_X12_scan hs (e := t_e q) (n := t_n q) (by rw [x1]; exact x5.1.1) x5.1.2.1 (by rw [x2]; exact x5.1.2.2.1) x5.1.2.2.2 (fun i hi => by rw [(x4 i hi).1]; obtain ⟨b, hb, e9⟩ := (x4 i hi).2; rw [e9]; exact nI_nm1 (by omega))) (ci := 12) rfl rfl rfl (hs.1 _ _ _ ⟨rfl, rfl⟩) rfl rfl rfl rfl ⟨Nat.le_refl _, Nat.le_refl _⟩ rfl dX12_advance_8 ?_
    refine ca_vreturn h hR dX12_advance_11 ?_
    exact ⟨rfl, rfl, _, rfl, r_X_adv hX.1 x5.1 c_4, r_tf_ts⟩
theorem t_is_kind {q p : ch_N} {a : Nat} (h : r_X1 q p) (ht : t_is q a = true) (hl : 0 < k_len a) : q 12 0 7 = t_kd (k_chr a 0) ∧ t_s q < t_e q := by
  obtain ⟨h1, h2, h3⟩ := of_decide_eq_true ht
  have h4 := h3 0 hl
  rw [Nat.add_zero] at h4
  have hx := h.2.1
  refine ⟨by rw [h.2.2.2.2.2.1]; unfold t_k; rw [h4], ?_⟩
  have := hx.1.2.2.2
  omega
theorem t_sym {q p : ch_N} {a : Nat} (h : r_X1 q p) (hl : k_len a = 1) (hc : t_kd (k_chr a 0) = 4) : t_is q a = true ↔ q 12 0 1 = 0 ∧ q 12 0 7 = 4 ∧ (t_s q < t_e q ∧ q 13 0 (t_s q) = k_chr a 0) := by
  obtain ⟨-, hx, -, -, -, d1, d2, d3⟩ := h
  constructor
  · intro ht
    obtain ⟨h1, h2, h3⟩ := of_decide_eq_true ht
    have h4 := h3 0 (by omega)
    rw [Nat.add_zero] at h4
    have hlt : t_s q < t_e q := by have := hx.1.2.2.2; omega
    refine ⟨h1, by rw [d1]; unfold t_k; rw [h4]; exact hc, hlt, ?_⟩
    unfold t_at at h4
    rw [if_pos hlt] at h4
    exact h4
  · rintro ⟨h1, h2, hlt, h3⟩
    refine decide_eq_true ⟨h1, ?_, fun i hi => ?_⟩
    · rw [d3, hl]
      unfold t_nn t_n0
      rw [if_neg (by rw [← d1, h2]; decide)]
      split <;> omega
    · rw [show i = 0 by omega, Nat.add_zero]
      unfold t_at
      rw [if_pos hlt, h3]
set_option maxHeartbeats 100000 in
theorem c_X12_isSymbol {l : Launch} {E : ch_E} {S : ch_S} {μ : ch_M} (hs : ch_Std E S) {q : ch_N} (hX : r_X1 q (μ 16)) {a : Nat} (hl : k_len a = 1) (hc : t_kd (k_chr a 0) = 4) {c : Int32} (ec : c = k_chr a 0) : ch_C E l yX12_isSymbol cX12_isSymbol 2 (some FieldType.boolean) 1 0 0 S μ [.ref (S.1 16 22 0), .int c] (ch_F (some (.int (bI (t_is q a)))) S (μ)) := by
  refine ch_enter rfl rfl ?_
  intro X hl0 h hG hR hnm
  have h : ch_H X E RX12 cX12_isSymbol 2 := h
  obtain ⟨⟨x1, x2, x3, x4⟩, x5, x6, x7, x8, x9, x10, x11⟩ := id hX
  show ch_W X E 2 S μ 0 0 0 [(0, .ref (S.1 16 22 0)), (1, .int c)] []
  refine ca_aload_nr h dX12_isSymbol_0 rfl ?_
  refine gi_X12_301 h (hs.1 _ _ _ ⟨rfl, rfl⟩) dX12_isSymbol_1 ?_
  rw [x3]
  refine ca_if_ne (tgt := 32) h dX12_isSymbol_4 (by decide) (fun c_4 => ?_) (fun c_4 => ?_)
  ·
    refine ca_iconst h dX12_isSymbol_32 ik_0 ?_
    refine ca_ireturn h hR rfl dX12_isSymbol_33 ?_
    have ht : t_is q a = false := Bool.eq_false_iff.mpr (fun z => by
      obtain ⟨y1, y2, y3, y4⟩ := (t_sym hX hl hc).mp z
      exact c_4 y1)
    exact ⟨by rw [ht]; rfl, rfl, rfl⟩
  ·
    refine ca_aload_nr h dX12_isSymbol_7 rfl ?_
    refine gi_X12_292 h (hs.1 _ _ _ ⟨rfl, rfl⟩) dX12_isSymbol_8 ?_
    refine ca_top (show _ = r_tok (q 12 0 7) from x7) ?_
    refine ca_iconst h dX12_isSymbol_11 ik_3 ?_
    refine ca_icmp_ne (tgt := 32) h dX12_isSymbol_12 (by decide) (fun c_12 => ?_) (fun c_12 => ?_)
    ·
      refine ca_iconst h dX12_isSymbol_32 ik_0 ?_
      refine ca_ireturn h hR rfl dX12_isSymbol_33 ?_
      have ht : t_is q a = false := Bool.eq_false_iff.mpr (fun z => by
        obtain ⟨y1, y2, y3, y4⟩ := (t_sym hX hl hc).mp z
        exact c_12 (by rw [y2]; rfl))
      exact ⟨by rw [ht]; rfl, rfl, rfl⟩
    ·
      have hk4 : q 12 0 7 = 4 := by
        have c9 := c_12
        rcases t_kd4 (t_at (q 13 0) (t_e q) (t_s q)) with z | z | z | z | z <;> (have z2 : q 12 0 7 = _ := x9.trans z)
        · rw [z2] at c9; exact absurd c9 (by decide)
        · rw [z2] at c9; exact absurd c9 (by decide)
        · rw [z2] at c9; exact absurd c9 (by decide)
        · exact absurd z2 x10
        · exact z2
      have hse : t_s q < t_e q := by
        have h4 := x9.symm.trans hk4
        refine Nat.not_le.mp (fun z => ?_)
        unfold t_k at h4
        rw [t_at_e _ z] at h4
        exact absurd h4 (by decide)
      have h700 := x5.1.2.1
      refine ca_aload_nr h dX12_isSymbol_15 rfl ?_
      refine gs_X12_31 h hs ⟨rfl, rfl⟩ dX12_isSymbol_16 ?_
      refine ca_aload_nr h dX12_isSymbol_19 rfl ?_
      refine gi_X12_289 h (hs.1 _ _ _ ⟨rfl, rfl⟩) dX12_isSymbol_20 ?_
      refine ca_top (show _ = nI (t_s q) by rw [x6]; exact x5.2.1) ?_
      refine ca_iald h rfl (hs.1 _ _ _ ⟨rfl, rfl⟩) (vp_in_nI (by omega) (by decide)) dX12_isSymbol_23 ?_
      refine ca_iload_n h dX12_isSymbol_24 rfl ?_
      refine ca_icmp_ne (tgt := 32) h dX12_isSymbol_25 (by decide) (fun c_25 => ?_) (fun c_25 => ?_)
      ·
        refine ca_iconst h dX12_isSymbol_32 ik_0 ?_
        refine ca_ireturn h hR rfl dX12_isSymbol_33 ?_
        have ht : t_is q a = false := Bool.eq_false_iff.mpr (fun z => by
          obtain ⟨y1, y2, y3, y4⟩ := (t_sym hX hl hc).mp z
          exact c_25 (by rw [nI_clamp (by omega), (x4 _ hse).1, ec]; exact y4))
        exact ⟨by rw [ht]; rfl, rfl, rfl⟩
      ·
        refine ca_iconst h dX12_isSymbol_28 ik_1 ?_
        refine ca_goto (tgt := 33) h dX12_isSymbol_29 (by decide) ?_
        refine ca_ireturn h hR rfl dX12_isSymbol_33 ?_
        have ht : t_is q a = true := (t_sym hX hl hc).mpr ⟨c_4, hk4, hse, by have c9 := c_25; rw [nI_clamp (by omega), (x4 _ hse).1, ec] at c9; exact c9⟩
        exact ⟨by rw [ht]; rfl, rfl, rfl⟩
