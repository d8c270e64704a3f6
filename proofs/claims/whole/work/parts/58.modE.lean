/-! THE REFERENCE'S READING of a network: the draft row d holds the class's trial network n while there is no error -/
def r_D (n : ch_N) (d : Nat → Int32) : Prop := r_N n d ∧ k_mc n = 0 ∧ (∀ c, k_cc n ≤ c → c < 8 → d (18 + 9 * c + 8) = 0) ∧ ∀ r, Int32.toNatClampNeg (d 1) ≤ r → r < 24 → d (90 + 5 * r + 3) = 0 ∧ d (90 + 5 * r + 4) = 0
def r_tg (p p' : ch_N) : Prop := (∀ kd, kd ≠ 22 → kd ≠ 24 → p' kd = p kd) ∧ ∀ j, j < 13 ∨ j = 19 ∨ 20 < j → p' 22 0 j = p 22 0 j
theorem r_tg_tf {p p' : ch_N} (h : r_tf p p') : r_tg p p' := ⟨fun kd h1 _ => h.1 kd h1, fun j hj => h.2 j (by omega)⟩
theorem r_tg_tr {p p' p2 : ch_N} (h : r_tg p p') (h2 : r_tg p' p2) : r_tg p p2 := ⟨fun kd h1 h3 => (h2.1 kd h1 h3).trans (h.1 kd h1 h3), fun j hj => (h2.2 j hj).trans (h.2 j hj)⟩
theorem r_tg_24 {p : ch_N} {j : Nat} {v : Int32} : r_tg p (nw p 24 0 j v) := ⟨fun kd _ h => nw_k h, fun i _ => by rw [nw_at, if_neg (by omega)]⟩
theorem r_X1_24 {q p : ch_N} {j : Nat} {v : Int32} (h : r_X1 q p) : r_X1 q (nw p 24 0 j v) := by
  obtain ⟨⟨a1, a2, a3, a4⟩, b, c1, c2, c3, d⟩ := h
  have e : ∀ i, (nw p 24 0 j v) 22 0 i = p 22 0 i := fun i => by rw [nw_at, if_neg (by omega)]
  exact ⟨⟨by rw [e]; exact a1, by rw [e]; exact a2, by rw [e]; exact a3, fun i hi => by rw [nw_k (by decide)]; exact a4 i hi⟩, b, by rw [e]; exact c1, by rw [e]; exact c2, fun z => by rw [e]; exact c3 z, d⟩
def r_dn (d : Nat → Int32) (q' : ch_N) (pl : Nat) (v : Int32) : Nat → Int32 := if q' 12 0 1 = 0 then up d pl v else d
theorem nw_24 (p : ch_N) (j : Nat) (v : Int32) : (nw p 24 0 j v) 24 0 = up (p 24 0) j v := by
  funext i
  rw [nw_at]
  by_cases e : i = j
  · rw [if_pos ⟨rfl, rfl, e⟩, e, up_s]
  · rw [if_neg (fun z => e z.2.2), up_n e]
theorem t_take_in {q p : ch_N} {lo hi : Int32} (hX : r_X1 q p) (h : (t_take q lo hi).2 12 0 1 = 0) : q 12 0 1 = 0 ∧ ¬ (t_take q lo hi).1 < lo ∧ ¬ hi < (t_take q lo hi).1 := by
  rw [t_take_2, t_adv_1] at h
  have h1 : (r_q1 q) 12 0 1 = 0 := by
    refine Classical.byContradiction fun z => ?_
    unfold r_q2 at h
    rw [if_pos z] at h
    exact z h
  obtain ⟨g1, g2⟩ := r_q1_k h1
  have h0 : q 12 0 1 = 0 := by rw [← g2]; exact h1
  rw [t_take_1, if_pos h]
  refine ⟨h0, ?_⟩
  refine Classical.byContradiction fun z => ?_
  unfold r_q2 at h
  rw [if_neg (fun w => w h1), if_pos ?_] at h
  · exact absurd h (t_fail_ne (by decide))
  · by_cases g : t_num (r_q1 q) (t_n (r_q1 q) - t_s (r_q1 q)) < lo
    · exact Or.inl g
    · exact Or.inr (Classical.byContradiction fun y => z ⟨g, y⟩)
theorem t_take_err {q : ch_N} {lo hi : Int32} (h : ¬ q 12 0 1 = 0) : (t_take q lo hi).2 = q := by
  have e1 : r_q1 q = q := by unfold r_q1; split; rfl; exact t_fail_f 1 h
  rw [t_take_2]
  unfold r_q2
  rw [e1, if_pos h]
  unfold t_adv
  rw [if_pos h]
theorem r_D_hdr {n : ch_N} {d : Nat → Int32} {j : Nat} {v : Int32} (h : r_D n d) (hj : 4 ≤ j ∧ j < 10) (h4 : j = 4 → ¬ v < 1 ∧ ¬ 8 < v) (h5 : j = 5 → 0 < v) : r_D (nw n 0 0 j v) (up d j v) := by
  obtain ⟨hN, h0, hc, hr⟩ := h
  have hcc8 := hN.2.2.2.2.2.2.1
  have h24 := r_24 hN
  have ek : ∀ kd, kd ≠ 0 → nw n 0 0 j v kd = n kd := fun kd hk => nw_k hk
  have e0 : ∀ i, i ≠ j → nw n 0 0 j v 0 0 i = n 0 0 i := fun i hi => by rw [nw_at, if_neg (fun z => hi z.2.2)]
  have ec : k_cc (nw n 0 0 j v) = k_cc n := by unfold k_cc; rw [e0 0 (by omega)]
  have em : k_mc (nw n 0 0 j v) = k_mc n := by unfold k_mc; rw [e0 2 (by omega)]
  obtain ⟨a1, ⟨a2, ⟨k1, k2, k3, k4, k5⟩, aK2⟩, a3, aR, aM, w1, w2, w3, w4, w5, w6⟩ := hN
  have hw : ∀ P : Int32 → Prop, (j = 4 → P v) → (j ≠ 4 → P (n 0 0 4)) → P (nw n 0 0 j v 0 0 4) := fun P p1 p2 => by
    by_cases e : j = 4
    · subst e; rw [nw_at, if_pos ⟨rfl, rfl, rfl⟩]; exact p1 rfl
    · rw [e0 4 (fun z => e z.symm)]; exact p2 e
  have hv : j = 4 → ∃ a, 1 ≤ a ∧ a ≤ 8 ∧ v = nI a := fun e => by
    obtain ⟨g1, g2⟩ := h4 e
    obtain ⟨a, ha, rfl⟩ := r_bd (k := 8) (by decide) (fun z => g1 (Int32.lt_trans z (by decide))) g2
    exact ⟨a, Nat.not_lt.mp (fun z => g1 (nI_lt (b := 1) z (by decide))), ha, rfl⟩
  refine ⟨⟨fun i hi => ?_, ⟨fun t ht => by rw [up_n (by omega), ek 7 (by decide)]; exact a2 t ht, ⟨by rw [e0 3 (by omega)]; exact k1, by rw [e0 3 (by omega)]; exact k2, ?_, by rw [e0 0 (by omega)]; exact k4, by rw [e0 2 (by omega)]; exact k5⟩, fun c hc => by rw [ek 1 (by decide)]; exact aK2 c (by rw [ec] at hc; exact hc)⟩, fun c f hc hf => by rw [up_n (by omega), ek 1 (by decide)]; exact a3 c f (by rw [ec] at hc; exact hc) hf, r_R_congr' aR (up_n (by omega)) (fun i hi => up_n (by omega)) (ek 2 (by decide)) ec, fun i hi => absurd hi (by rw [em, h0]; exact Nat.not_lt_zero _), by rw [em]; exact w1, by rw [ec]; exact w2, ?_, ?_, ?_, fun i c hi hc => by rw [ek 5 (by decide)]; exact ⟨(w6 i c hi hc).1, (w6 i c hi hc).2.1, fun z => absurd z (by rw [em, h0]; exact Nat.not_lt_zero _)⟩⟩, by rw [em]; exact h0, fun c hc1 hc8 => by rw [up_n (by omega)]; exact hc c (by rw [ec] at hc1; exact hc1) hc8, fun r h1 h2 => by rw [up_n (show 1 ≠ j by omega)] at h1; rw [up_n (by omega), up_n (by omega)]; exact hr r h1 h2⟩
  · by_cases e : i = j
    · subst e; rw [up_s, nw_at, if_pos ⟨rfl, rfl, rfl⟩]
    · rw [up_n e, e0 i e]; exact a1 i hi
  · by_cases e : j = 5
    · subst e; rw [nw_at, if_pos ⟨rfl, rfl, rfl⟩]; exact h5 rfl
    · rw [e0 5 (fun z => e z.symm)]; exact k3
  · exact hw (fun x => ¬ x < 0) (fun e => by obtain ⟨a, g1, g2, rfl⟩ := hv e; exact nI_pos (by omega)) (fun _ => w3)
  · exact hw (fun x => 1 ≤ Int32.toNatClampNeg x) (fun e => by obtain ⟨a, g1, g2, rfl⟩ := hv e; rw [nI_clamp (by omega)]; exact g1) (fun _ => w4)
  · exact hw (fun x => Int32.toNatClampNeg x ≤ 8) (fun e => by obtain ⟨a, g1, g2, rfl⟩ := hv e; rw [nI_clamp (by omega)]; exact g2) (fun _ => w5)
theorem r_D_cell {n n' : ch_N} {d d' : Nat → Int32} {c : Nat} {V : Nat → Int32} (h : r_D n d) (hc : c = k_cc n) (hc8 : c < 8) (b0 : ¬ V 0 < 0 ∧ ¬ 999 < V 0) (b1 : ¬ V 1 < 0 ∧ ¬ 999 < V 1) (b2 : ¬ V 2 < 0 ∧ ¬ 99 < V 2) (b3 : ¬ V 3 < 0 ∧ ¬ 50 < V 3)
    (hn0 : ∀ j, n' 0 0 j = if j = 0 then nI (c + 1) else n 0 0 j) (hn1 : ∀ i f, f < 9 → n' 1 i f = if i = c then (if f = 8 then 0 else V f) else n 1 i f) (hk : ∀ kd, kd ≠ 0 → kd ≠ 1 → n' kd = n kd)
    (hd : ∀ j, d' j = if j = 0 then nI (c + 1) else if 18 + 9 * c ≤ j ∧ j < 18 + 9 * c + 8 then V (j - (18 + 9 * c)) else d j) : r_D n' d' := by
  obtain ⟨hN, h0, hcz, hr⟩ := h
  have h24 := r_24 hN
  have ec : k_cc n' = c + 1 := by unfold k_cc; rw [hn0, if_pos rfl, nI_clamp (by omega)]
  have em : k_mc n' = 0 := by unfold k_mc; rw [hn0, if_neg (by decide)]; exact h0
  obtain ⟨a1, ⟨a2, ⟨k1, k2, k3, k4, k5⟩, aK2⟩, a3, ⟨⟨r1, r2⟩, r3, r4, r5, r6⟩, aM, w1, w2, w3, w4, w5, w6⟩ := hN
  have hdo : ∀ j, j ≠ 0 → ¬ (18 + 9 * c ≤ j ∧ j < 18 + 9 * c + 8) → d' j = d j := fun j h1 h2 => by rw [hd, if_neg h1, if_neg h2]
  have e0 : ∀ j, j ≠ 0 → n' 0 0 j = n 0 0 j := fun j hj => by rw [hn0, if_neg hj]
  refine ⟨⟨fun j hj => ?_, ⟨fun t ht => by rw [hdo _ (by omega) (by omega), hk 7 (by decide) (by decide)]; exact a2 t ht, ⟨by rw [e0 3 (by decide)]; exact k1, by rw [e0 3 (by decide)]; exact k2, by rw [e0 5 (by decide)]; exact k3, by rw [hn0, if_pos rfl]; exact nI_pos (by omega), by rw [e0 2 (by decide)]; exact k5⟩, fun i hi => ?_⟩, fun i f hi hf => ?_, ?_, fun i hi => absurd hi (by rw [em]; exact Nat.not_lt_zero _), by rw [em]; exact Nat.zero_le _, by rw [ec]; omega, by rw [e0 4 (by decide)]; exact w3, by rw [e0 4 (by decide)]; exact w4, by rw [e0 4 (by decide)]; exact w5, fun i f hi hf => by rw [hk 5 (by decide) (by decide)]; exact ⟨(w6 i f hi hf).1, (w6 i f hi hf).2.1, fun z => absurd z (by rw [em]; exact Nat.not_lt_zero _)⟩⟩, em, fun i hi hi8 => ?_, fun r h1 h2 => ?_⟩
  · by_cases e : j = 0
    · subst e; rw [hd, if_pos rfl, hn0, if_pos rfl]
    · rw [hdo j e (by omega), e0 j e]; exact a1 j hj
  · rw [ec] at hi
    rw [hn1 i 0 (by decide), hn1 i 1 (by decide), hn1 i 2 (by decide), hn1 i 3 (by decide)]
    by_cases e : i = c
    · rw [if_pos e, if_pos e, if_pos e, if_pos e, if_neg (by decide), if_neg (by decide), if_neg (by decide), if_neg (by decide)]
      exact ⟨b0.1, b0.2, b1.1, b1.2, b2.1, b2.2, b3.1, b3.2⟩
    · rw [if_neg e, if_neg e, if_neg e, if_neg e]
      exact aK2 i (by omega)
  · rw [ec] at hi
    rw [hn1 i f hf]
    by_cases e : i = c
    · rw [if_pos e, e]
      by_cases g : f = 8
      · rw [if_pos g, g, hdo _ (by omega) (by omega)]
        exact hcz c (by omega) hc8
      · rw [if_neg g, hd, if_neg (by omega), if_pos (by omega), Nat.add_sub_cancel_left]
    · rw [if_neg e, hdo _ (by omega) (by omega)]
      exact a3 i f (by omega) hf
  · unfold r_R
    rw [hdo 1 (by decide) (by omega), hk 2 (by decide) (by decide), ec]
    refine ⟨⟨r1, r2⟩, fun r h1 => ?_, fun r t h1 h2 g1 g2 => ?_, fun a b ha hb hz => ?_, r6⟩
    · obtain ⟨a, b, ha, hb, g⟩ := r3 r h1
      refine ⟨a, b, by omega, by omega, ?_⟩
      rw [hdo _ (by omega) (by omega), hdo _ (by omega) (by omega), hdo _ (by omega) (by omega), hdo _ (by omega) (by omega), hdo _ (by omega) (by omega)]
      exact g
    · rw [hdo _ (by omega) (by omega), hdo (90 + 5 * t) (by omega) (by omega)] at g1
      rw [hdo _ (by omega) (by omega), hdo (90 + 5 * t + 1) (by omega) (by omega)] at g2
      exact r4 r t h1 h2 g1 g2
    · obtain ⟨r, h1, g1, g2⟩ := r5 a b ha hb hz
      exact ⟨r, h1, by rw [hdo _ (by omega) (by omega)]; exact g1, by rw [hdo _ (by omega) (by omega)]; exact g2⟩
  · rw [ec] at hi
    rw [hdo _ (by omega) (by omega)]
    exact hcz i (by omega) hi8
  · rw [hdo 1 (by decide) (by omega)] at h1
    rw [hdo _ (by omega) (by omega), hdo _ (by omega) (by omega)]
    exact hr r h1 h2
set_option maxHeartbeats 100000 in
theorem c_X12_putNumber {l : Launch} {E : ch_E} {S : ch_S} {μ : ch_M} (hs : ch_Std E S) {q : ch_N} (hX : r_X1 q (μ 16)) {pl : Nat} (hpl : pl < 1302) {lo hi : Int32} (hh : hi < 100000) : ch_C E l yX12_putNumber cX12_putNumber 5 none 6 0 0 S μ [.ref (S.1 16 22 0), .int (nI pl), .int lo, .int hi] (ch_FX none S (fun μ' => ∃ p', μ' = up μ 16 p' ∧ r_X1 (t_take q lo hi).2 p' ∧ r_tg (μ 16) p' ∧ p' 24 0 = r_dn (μ 16 24 0) (t_take q lo hi).2 pl (t_take q lo hi).1)) := by
  refine ch_enter rfl rfl ?_
  intro X hl0 h hG hR hnm
  have h : ch_H X E RX12 cX12_putNumber 5 := h
  show ch_W X E 5 S μ 0 0 0 [(0, .ref (S.1 16 22 0)), (1, .int (nI pl)), (2, .int lo), (3, .int hi)] []
  refine ca_aload_nr h dX12_putNumber_0 rfl ?_
  refine ca_iload_n h dX12_putNumber_1 rfl ?_
  refine ca_iload_n h dX12_putNumber_2 rfl ?_
  refine ca_vXi h hG ml_X12_342 (c_X12_number hs hX hh) (ci := 12) rfl rfl rfl (hs.1 _ _ _ ⟨rfl, rfl⟩) rfl rfl rfl rfl ⟨Nat.le_refl _, Nat.le_refl _⟩ rfl dX12_putNumber_3 ?_
  intro μ9 hμ9
  obtain ⟨p, rfl, hX9, hf⟩ := hμ9
  refine ca_istore h dX12_putNumber_6 rfl ?_
  refine ca_aload_nr h dX12_putNumber_8 rfl ?_
  refine gi_X12_301 h (hs.1 _ _ _ ⟨rfl, rfl⟩) dX12_putNumber_9 ?_
  refine ca_top (show _ = (t_take q lo hi).2 12 0 1 by rw [up_s]; exact hX9.1.2.2.1) ?_
  refine ca_if_ne (tgt := 23) h dX12_putNumber_12 (by decide) (fun c_12 => ?_) (fun c_12 => ?_)
  ·
    refine ca_vreturn h hR dX12_putNumber_23 ?_
    exact ⟨rfl, rfl, p, rfl, hX9, r_tg_tf hf, by unfold r_dn; rw [if_neg c_12, hf.1 24 (by decide)]⟩
  ·
    refine ca_aload_nr h dX12_putNumber_15 rfl ?_
    refine gs_X12_13 h hs ⟨rfl, rfl⟩ dX12_putNumber_16 ?_
    refine ca_iload_n h dX12_putNumber_19 rfl ?_
    refine ca_iload h dX12_putNumber_20 rfl ?_
    refine ca_iast h rfl (hs.1 _ _ _ ⟨rfl, rfl⟩) (vp_in_nI hpl (by decide)) dX12_putNumber_22 ?_
    refine ca_vreturn h hR dX12_putNumber_23 ?_
    exact ⟨rfl, rfl, _, by rw [ch_st_nw, up_s, up_up, nI_clamp (by omega)], r_X1_24 hX9, r_tg_tr (r_tg_tf hf) r_tg_24, by unfold r_dn; rw [if_pos c_12, nw_24, hf.1 24 (by decide)]⟩
