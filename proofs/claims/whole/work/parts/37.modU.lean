/-! THE REFERENCE: a relation's number changed; a mobile handed over -/
theorem r_M_same {n n' : ch_N} {w w' : Nat → Int32} {i : Nat} (h : r_N n w) (hi : i < k_mc n) (hw : ∀ f, f < 91 → w' (210 + 91 * i + f) = w (210 + 91 * i + f)) (hk : ∀ kd, kd = 0 ∨ kd = 3 ∨ kd = 4 ∨ kd = 5 ∨ kd = 6 → n' kd = n kd) (h2 : ∀ j, n' 2 j 0 = n 2 j 0) : r_M n' w' i :=
  r_M_congr (h.2.2.2.2.1 i hi) hw (by rw [hk 3 (by omega)]) (by rw [hk 4 (by omega)]) (by rw [hk 5 (by omega)]) (by rw [hk 6 (by omega)]) (by unfold k_cc; rw [hk 0 (by omega)]) h2 (fun c hc => (r_c58 h (show i < 13 by have := r_m12 h hi; omega) hc).2)
theorem r_N_rel {n : ch_N} {w : Nat → Int32} {a b r f : Nat} {v : Int32} (h : r_N n w) (ha : a < 8) (hb : b < 8) (hr : r < Int32.toNatClampNeg (w 1)) (ea : w (90 + 5 * r) = nI a) (eb : w (90 + 5 * r + 1) = nI b) (hf : f = 1 ∨ f = 2 ∨ f = 3) (hex : ¬ n 2 (8 * a + b) 0 = 0) :
    r_N (nw n 2 (8 * a + b) f v) (up w (90 + 5 * r + (f + 1)) v) := by
  have h24 := r_24 h
  have ek : ∀ kd, kd ≠ 2 → nw n 2 (8 * a + b) f v kd = n kd := fun kd hk => nw_k hk
  have e20 : ∀ j, nw n 2 (8 * a + b) f v 2 j 0 = n 2 j 0 := fun j => by rw [nw_at, if_neg (by omega)]
  have ec : k_cc (nw n 2 (8 * a + b) f v) = k_cc n := by unfold k_cc; rw [ek 0 (by decide)]
  have em : k_mc (nw n 2 (8 * a + b) f v) = k_mc n := by unfold k_mc; rw [ek 0 (by decide)]
  have hMs : ∀ i, i < k_mc n → r_M (nw n 2 (8 * a + b) f v) (up w (90 + 5 * r + (f + 1)) v) i := fun i hi => r_M_same h hi (fun g hg => up_n (by omega)) (fun kd hk => ek kd (by omega)) e20
  have hcc8 := h.2.2.2.2.2.2.1
  obtain ⟨a1, ⟨a2, aK⟩, a3, ⟨⟨b1, b2⟩, b3, b4, b5, b6⟩, aM, aW⟩ := h
  have w1 : up w (90 + 5 * r + (f + 1)) v 1 = w 1 := up_n (by omega)
  have wf0 : ∀ t, t < 24 → up w (90 + 5 * r + (f + 1)) v (90 + 5 * t) = w (90 + 5 * t) := fun t ht => up_n (by omega)
  have wf1 : ∀ t, t < 24 → up w (90 + 5 * r + (f + 1)) v (90 + 5 * t + 1) = w (90 + 5 * t + 1) := fun t ht => up_n (by omega)
  refine ⟨fun j hj => by rw [up_n (by omega), ek 0 (by decide)]; exact a1 j hj, ⟨fun t ht => by rw [up_n (by omega), ek 7 (by decide)]; exact a2 t ht, ?_⟩, fun c g hc hg => by rw [up_n (by rw [ec] at hc; omega), ek 1 (by decide)]; exact a3 c g (by rw [ec] at hc; exact hc) hg, ⟨by rw [w1]; exact ⟨b1, b2⟩, fun t ht => ?_, fun t u ht hu e1 e2 => ?_, fun c d hc hd hz => ?_, fun c d hc hd hz => ?_⟩, fun i hi => hMs i (by rw [em] at hi; exact hi), wf_same aW (ek 0 (by decide)) (ek 5 (by decide))⟩
  · unfold r_K at *
    rw [ek 0 (by decide), ek 1 (by decide), ec]
    exact aK
  · rw [w1] at ht
    obtain ⟨c, d, hc, hd, g0, g1, g2, g3, g4, g5⟩ := b3 t ht
    refine ⟨c, d, by rw [ec]; exact hc, by rw [ec]; exact hd, by rw [wf0 t (by omega)]; exact g0, by rw [wf1 t (by omega)]; exact g1, by rw [e20]; exact g2, ?_⟩
    by_cases e : t = r
    · subst e
      have za : c = a := (nI_eq (by omega) (by omega)).mp (g0.symm.trans ea)
      have zb : d = b := (nI_eq (by omega) (by omega)).mp (g1.symm.trans eb)
      subst za zb
      rcases hf with rfl | rfl | rfl
      · exact ⟨by rw [up_s, nw_at, if_pos ⟨rfl, rfl, rfl⟩], by rw [up_n (by omega), nw_at, if_neg (by omega)]; exact g4, by rw [up_n (by omega), nw_at, if_neg (by omega)]; exact g5⟩
      · exact ⟨by rw [up_n (by omega), nw_at, if_neg (by omega)]; exact g3, by rw [up_s, nw_at, if_pos ⟨rfl, rfl, rfl⟩], by rw [up_n (by omega), nw_at, if_neg (by omega)]; exact g5⟩
      · exact ⟨by rw [up_n (by omega), nw_at, if_neg (by omega)]; exact g3, by rw [up_n (by omega), nw_at, if_neg (by omega)]; exact g4, by rw [up_s, nw_at, if_pos ⟨rfl, rfl, rfl⟩]⟩
    · have hne : ¬ 8 * c + d = 8 * a + b := fun z => e (b4 t r ht hr (by rw [g0, ea]; congr 1; omega) (by rw [g1, eb]; congr 1; omega))
      exact ⟨by rw [up_n (by omega), nw_at, if_neg (fun z => hne z.2.1)]; exact g3, by rw [up_n (by omega), nw_at, if_neg (fun z => hne z.2.1)]; exact g4, by rw [up_n (by omega), nw_at, if_neg (fun z => hne z.2.1)]; exact g5⟩
  · rw [w1] at ht hu
    rw [wf0 t (by omega), wf0 u (by omega)] at e1
    rw [wf1 t (by omega), wf1 u (by omega)] at e2
    exact b4 t u ht hu e1 e2
  · rw [e20] at hz
    obtain ⟨t, ht, g1, g2⟩ := b5 c d hc hd hz
    exact ⟨t, by rw [w1]; exact ht, by rw [wf0 t (by omega)]; exact g1, by rw [wf1 t (by omega)]; exact g2⟩
  · rw [e20] at hz
    have hne : ¬ 8 * c + d = 8 * a + b := fun z => hex (by rw [← z]; exact hz)
    rw [nw_at, if_neg (fun z => hne z.2.1), nw_at, if_neg (fun z => hne z.2.1)]
    exact b6 c d hc hd hz
/-- the mobile's part of a handover -/
def k_hom (n : ch_N) (i : Nat) (t v : Int32) : ch_N := nw (nw (nw (k_bar n i (n 3 i 5) v) 3 i 5 t) 3 i 7 0) 3 i 8 (-1)
def r_hom (w : Nat → Int32) (m s : Nat) (t v : Int32) : Nat → Int32 := r_wd (up (up (up w (210 + 91 * m + 5) t) (210 + 91 * m + (11 + s)) v) (210 + 91 * m + 7) 0) m
theorem k_hom_c {n : ch_N} {i s : Nat} {t v : Int32} (hs : s < 8) (h5 : n 3 i 5 = nI s) : k_hom n i t v = nw (nw (nw (nw n 6 i s v) 3 i 5 t) 3 i 7 0) 3 i 8 (-1) := by
  unfold k_hom k_bar
  rw [h5, if_neg (nI_pos (by omega)), if_pos (show nI s < 8 from nI_lt (b := 8) hs (by decide)), nI_clamp (by omega)]
theorem r_N_hom {n : ch_N} {w : Nat → Int32} {m s t : Nat} {v : Int32} (h : r_N n w) (hm : m < k_mc n) (ht : n 3 m 4 = 1) (h5 : n 3 m 5 = nI s) (hs : s < 8) (htc : t < k_cc n) : r_N (k_hom n m (nI t) v) (r_hom w m s (nI t) v) := by
  obtain ⟨a1, a2, a3, a4, a5, a6, a7, a8, a9, a10, a11, a12, a13, a14⟩ := h.2.2.2.2.1 m hm
  have ht8 := r_c8 h htc
  rw [k_hom_c hs h5]
  have e3 : ∀ j, nw (nw (nw (nw n 6 m s v) 3 m 5 (nI t)) 3 m 7 0) 3 m 8 (-1) 3 m j = if j = 8 then -1 else if j = 7 then 0 else if j = 5 then nI t else n 3 m j := by
    intro j
    simp only [nw_at]
    by_cases g8 : j = 8
    · subst g8; simp
    by_cases g7 : j = 7
    · subst g7; simp
    by_cases g5 : j = 5
    · subst g5; simp
    simp [g8, g7, g5]
  have ek : ∀ kd, kd ≠ 3 → kd ≠ 6 → nw (nw (nw (nw n 6 m s v) 3 m 5 (nI t)) 3 m 7 0) 3 m 8 (-1) kd = n kd := fun kd h3 h6 => by rw [nw_k h3, nw_k h3, nw_k h3, nw_k h6]
  have e6 : ∀ c, nw (nw (nw (nw n 6 m s v) 3 m 5 (nI t)) 3 m 7 0) 3 m 8 (-1) 6 m c = if c = s then v else n 6 m c := fun c => by
    rw [nw_k (by decide), nw_k (by decide), nw_k (by decide), nw_at]
    by_cases e : c = s
    · rw [if_pos ⟨rfl, rfl, e⟩, if_pos e]
    · rw [if_neg (fun z => e z.2.2), if_neg e]
  have ew : ∀ i, r_hom w m s (nI t) v i = if i = 210 + 91 * m + 8 then -1 else if i = 210 + 91 * m + 7 then 0 else if i = 210 + 91 * m + (11 + s) then v else if i = 210 + 91 * m + 5 then nI t else w i := fun i => rfl
  have hoff : ∀ kd i, i ≠ m → nw (nw (nw (nw n 6 m s v) 3 m 5 (nI t)) 3 m 7 0) 3 m 8 (-1) kd i = n kd i := fun kd i hi => by
    funext j
    simp [nw_at, hi]
  generalize nw (nw (nw (nw n 6 m s v) 3 m 5 (nI t)) 3 m 7 0) 3 m 8 (-1) = n' at *
  have ec : k_cc n' = k_cc n := by unfold k_cc; rw [ek 0 (by decide) (by decide)]
  have s1 : n' 3 m 4 = 1 := by rw [e3, if_neg (by decide), if_neg (by decide), if_neg (by decide), ht]
  have s8 : n' 3 m 8 = -1 := by rw [e3, if_pos rfl]
  refine r_N_mob h hm (fun kd h3 _ _ h6 => ek kd h3 h6) hoff (fun j hj => by rw [ew, if_neg (by omega), if_neg (by omega), if_neg (by omega), if_neg (by omega)]) ?_ (wf_same h.2.2.2.2.2 (ek 0 (by decide) (by decide)) (ek 5 (by decide) (by decide)))
  unfold r_M
  rw [s1, s8, ek 2 (by decide) (by decide), ek 4 (by decide) (by decide), ek 5 (by decide) (by decide), ec]
  refine ⟨fun f hf => ?_, by rw [ew, if_pos rfl], fun _ => ⟨by rw [ew, if_neg (by omega), if_pos rfl, e3, if_neg (by decide), if_pos rfl], fun c hc => ?_⟩, fun z => absurd rfl z, Or.inr (Or.inl rfl), fun _ => ⟨t, htc, by rw [e3, if_neg (by decide), if_neg (by decide), if_pos rfl]⟩, fun z => absurd rfl z, fun z => absurd z (by decide), fun z => absurd z (by decide), Or.inl rfl, fun _ => ?_, fun _ c hc z => absurd z.symm (nI_nm1 (by omega)), ?_, fun _ => a14 ht⟩
  · rw [ew, e3, if_neg (by omega), if_neg (by omega), if_neg (by omega)]
    by_cases g5 : f = 5
    · subst g5
      rw [if_pos rfl, if_neg (by decide), if_neg (by decide), if_pos rfl]
    · rw [if_neg (by omega), if_neg (by omega), if_neg (by omega), if_neg g5]
      exact a1 f hf
  · obtain ⟨b1, b2, b3⟩ := (a3 ht).2 c hc
    refine ⟨?_, ?_, fun k hk => ?_⟩
    · rw [ew, if_neg (by omega), if_neg (by omega), e6]
      by_cases e : c = s
      · rw [if_pos (by omega), if_pos e]
      · rw [if_neg (by omega), if_neg (by omega), if_neg e]; exact b1
    · rw [ew, if_neg (by omega), if_neg (by omega), if_neg (by omega), if_neg (by omega)]; exact b2
    · rw [ew, if_neg (by omega), if_neg (by omega), if_neg (by omega), if_neg (by omega)]; exact b3 k hk
  · rw [e3, if_neg (by decide), if_neg (by decide), if_neg (by decide)]
    exact a11 (by rw [ht]; decide)
  · rw [e3, e3, if_neg (by decide), if_neg (by decide), if_neg (by decide), if_neg (by decide), if_neg (by decide), if_neg (by decide)]
    exact a13
theorem k_cnt_nw {n : ch_N} {kd i j t : Nat} {v : Int32} (h : kd ≠ 7) : k_cnt (nw n kd i j v) t = nw (k_cnt n t) kd i j v := by
  funext a b c
  unfold k_cnt
  rw [nw_k (show (7 : Nat) ≠ kd from fun z => h z.symm)]
  simp only [nw_at]
  by_cases h1 : a = 7 ∧ b = 0 ∧ c = t
  · rw [if_pos h1, if_neg (fun z => h (z.1.symm.trans h1.1)), if_pos h1]
  · rw [if_neg h1, if_neg h1]
theorem k_cnt_cnt (n : ch_N) : k_cnt (k_cnt n 1) 0 = k_cnt (k_cnt n 0) 1 := by
  funext a b c
  unfold k_cnt
  simp only [nw_at]
  by_cases h0 : a = 7 ∧ b = 0 ∧ c = 0
  · obtain ⟨rfl, rfl, rfl⟩ := h0; simp
  · by_cases h1 : a = 7 ∧ b = 0 ∧ c = 1
    · obtain ⟨rfl, rfl, rfl⟩ := h1; simp
    · simp [h0, h1]
theorem k_ho_eq {n n2 : ch_N} {i s t : Nat} (hs : s < 8) (ht : t < 8) (h5 : n 3 i 5 = nI s) (h2 : n2 = if k_isb n i (nI t) (n 0 0 3) = true then k_cnt (k_cnt n 0) 1 else k_cnt n 0) :
    k_ho n i (nI t) = nw (k_hom n2 i (nI t) (n 0 0 3 + n 0 0 6)) 2 (8 * s + t) 2 (k_hom n2 i (nI t) (n 0 0 3 + n 0 0 6) 2 (8 * s + t) 2 + 1) := by
  obtain ⟨n1, hn1⟩ : ∃ z, z = (if k_isb n i (nI t) (n 0 0 3) = true then k_cnt n 1 else n) := ⟨_, rfl⟩
  have e12 : k_cnt n1 0 = n2 := by
    rw [hn1, h2]
    split
    · exact k_cnt_cnt n
    · rfl
  have e10 : n1 0 = n 0 := by
    rw [hn1]
    split
    · exact k_cnt_0 _ _
    · rfl
  have e23 : n2 3 = n 3 := by
    rw [h2]
    split
    · rw [k_cnt_3, k_cnt_3]
    · exact k_cnt_3 _ _
  have e122 : n2 2 = n1 2 := by rw [← e12]; exact nw_k (by decide)
  rw [k_hom_c hs (by rw [e23]; exact h5)]
  unfold k_ho
  dsimp only
  rw [← hn1, h5, r_rx hs ht, e10]
  unfold k_bar
  rw [if_neg (nI_pos (by omega)), if_pos (show nI s < 8 from nI_lt (b := 8) hs (by decide)), nI_clamp (by omega)]
  rw [k_cnt_nw (by decide), k_cnt_nw (by decide), k_cnt_nw (by decide), k_cnt_nw (by decide), k_cnt_nw (by decide), e12]
  congr 1
  rw [nw_k (by decide), nw_k (by decide), nw_k (by decide), nw_k (by decide), nw_k (by decide), nw_k (by decide), nw_k (by decide), nw_k (by decide), e122]
theorem cn6 : Int32.toNatClampNeg 6 = 6 := rfl
set_option maxHeartbeats 100000 in
theorem c_X12_handOver {l : Launch} {E : ch_E} {S : ch_S} {μ : ch_M} (hs : ch_Std E S) {n : ch_N} (hN : r_N n (μ 16 23 0)) {m : Nat} (hm : m < k_mc n) (ht : n 3 m 4 = 1) {s t : Nat} (hsc : s < k_cc n) (h5 : n 3 m 5 = nI s) (htc : t < k_cc n) (hrel : ¬ n 2 (8 * s + t) 0 = 0) : ch_C E l yX12_handOver cX12_handOver 4 none 3 0 0 S μ [.ref (S.1 16 22 0), .int (nI m), .int (nI t)] (r_X (k_ho n m (nI t)) S μ) := by
  refine ch_enter rfl rfl ?_
  intro X hl0 h hG hR hnm
  have h : ch_H X E RX12 cX12_handOver 4 := h
  have hm12 := r_m12 hN hm
  have hs8 := r_c8 hN hsc
  have ht8 := r_c8 hN htc
  show ch_W X E 4 S μ 0 0 0 [(0, .ref (S.1 16 22 0)), (1, .int (nI m)), (2, .int (nI t))] []
  refine ca_aload_nr h dX12_handOver_0 rfl ?_
  refine ca_iload_n h dX12_handOver_1 rfl ?_
  refine ca_iconst h dX12_handOver_2 ik_5 ?_
  refine ca_vi h hG ml_X12_77 (c_X12_of hs (f := 5) (by omega) (by decide)) (ci := 12) rfl rfl rfl (hs.1 _ _ _ ⟨rfl, rfl⟩) rfl rfl rfl rfl ⟨Nat.le_refl _, Nat.le_refl _⟩ rfl dX12_handOver_3 ?_
  rw [r_f hN hm (f := 5) (by decide), h5]
  refine ca_istore_n h dX12_handOver_6 rfl ?_
  refine ca_mem (μ'' := r_wr μ (μ 16 23 0)) (r_wr_id μ).symm ?_
  refine ca_aload_nr h dX12_handOver_7 rfl ?_
  refine ca_iconst h dX12_handOver_8 ik_0 ?_
  refine ca_vv h hG ml_X12_183 (c_X12_count hs (t := 0) (by decide)) (ci := 12) rfl rfl rfl (hs.1 _ _ _ ⟨rfl, rfl⟩) rfl rfl rfl rfl ⟨Nat.le_refl _, Nat.le_refl _⟩ rfl dX12_handOver_9 ?_
  refine ca_mem (μ'' := r_wr μ (up (μ 16 23 0) (10 + 0) (μ 16 23 0 (10 + 0) + 1))) (by simp only [r_wr_put, r_wr_at, r_wr_wr]) ?_
  have hN1 : r_N (k_cnt n 0) (up (μ 16 23 0) (10 + 0) (μ 16 23 0 (10 + 0) + 1)) := r_N_tot hN (by decide)
  refine ca_aload_nr h dX12_handOver_12 rfl ?_
  refine ca_iload_n h dX12_handOver_13 rfl ?_
  refine ca_iload_n h dX12_handOver_14 rfl ?_
  refine ca_vi h hG ml_X12_198 (c_X12_isBarredNow hs (n := k_cnt n 0) (by rw [r_wr_at]; exact hN1) (by unfold k_mc; rw [k_cnt_0]; exact hm) (by rw [k_cnt_3]; exact ht) ht8) (ci := 12) rfl rfl rfl (hs.1 _ _ _ ⟨rfl, rfl⟩) rfl rfl rfl rfl ⟨Nat.le_refl _, Nat.le_refl _⟩ rfl dX12_handOver_15 ?_
  refine ca_if_eq (tgt := 26) h dX12_handOver_18 (by decide) (fun c_18 => ?_) (fun c_18 => ?_)
  ·
    obtain ⟨w2, hw2⟩ : ∃ z, z = (up (μ 16 23 0) (10 + 0) (μ 16 23 0 (10 + 0) + 1)) := ⟨_, rfl⟩
    obtain ⟨n2, hn2⟩ : ∃ z, z = k_cnt n 0 := ⟨_, rfl⟩
    have hN2 : r_N n2 w2 := by rw [hw2, hn2]; exact hN1
    have e0 : n2 0 = n 0 := by rw [hn2]; exact k_cnt_0 _ _
    have e3 : n2 3 = n 3 := by rw [hn2]; exact k_cnt_3 _ _
    have e2 : n2 2 = n 2 := by rw [hn2]; exact nw_k (by decide)
    have hib : k_isb n m (nI t) (n 0 0 3) = false := by have c9 := bI_0.mp c_18; rw [k_isb_c ht8] at c9 ⊢; rw [k_cnt_0] at c9; exact c9
    have em : k_mc n2 = k_mc n := by unfold k_mc; rw [e0]
    have ec : k_cc n2 = k_cc n := by unfold k_cc; rw [e0]
    have hek : k_ho n m (nI t) = _ := k_ho_eq (n2 := n2) hs8 ht8 h5 (by rw [hib, hn2]; rfl)
    refine ca_mem (μ'' := r_wr μ w2) (by rw [hw2]) ?_
    refine ca_aload_nr h dX12_handOver_26 rfl ?_
    refine ca_iload_n h dX12_handOver_27 rfl ?_
    refine ca_iconst h dX12_handOver_28 ik_5 ?_
    refine ca_iload_n h dX12_handOver_29 rfl ?_
    refine ca_vv h hG ml_X12_147 (c_X12_put hs (f := 5) (by omega) (by decide)) (ci := 12) rfl rfl rfl (hs.1 _ _ _ ⟨rfl, rfl⟩) rfl rfl rfl rfl ⟨Nat.le_refl _, Nat.le_refl _⟩ rfl dX12_handOver_30 ?_
    refine ca_aload_nr h dX12_handOver_33 rfl ?_
    refine ca_iload_n h dX12_handOver_34 rfl ?_
    refine ca_bipush h dX12_handOver_35 bk_11 ?_
    refine ca_iload_n h dX12_handOver_37 rfl ?_
    refine ca_iadd h dX12_handOver_38 ?_
    refine ca_top (show _ = nI (11 + s) by rw [show (11 : Int32) = nI 11 from rfl, nI_add]) ?_
    refine ca_aload_nr h dX12_handOver_39 rfl ?_
    refine gs_X12_9 h hs ⟨rfl, rfl⟩ dX12_handOver_40 ?_
    refine ca_iconst h dX12_handOver_43 ik_3 ?_
    refine ca_iald h rfl (hs.1 _ _ _ ⟨rfl, rfl⟩) (vp_in_nI (n := 3) (N := 1302) (by decide) (by decide)) dX12_handOver_44 ?_
    refine ca_aload_nr h dX12_handOver_45 rfl ?_
    refine gs_X12_9 h hs ⟨rfl, rfl⟩ dX12_handOver_46 ?_
    refine ca_bipush h dX12_handOver_49 bk_6 ?_
    refine ca_iald h rfl (hs.1 _ _ _ ⟨rfl, rfl⟩) (vp_in_nI (n := 6) (N := 1302) (by decide) (by decide)) dX12_handOver_51 ?_
    refine ca_iadd h dX12_handOver_52 ?_
    refine ca_top (show _ = (n 0 0 3 + n 0 0 6) by simp only [r_wr_put, r_wr_at, r_wr_wr]; rw [cn3, cn6, up_n (by omega), up_n (by omega), hN2.1 3 (by decide), hN2.1 6 (by decide), e0]) ?_
    refine ca_vv h hG ml_X12_147 (c_X12_put hs hm12 (by omega)) (ci := 12) rfl rfl rfl (hs.1 _ _ _ ⟨rfl, rfl⟩) rfl rfl rfl rfl ⟨Nat.le_refl _, Nat.le_refl _⟩ rfl dX12_handOver_53 ?_
    refine ca_aload_nr h dX12_handOver_56 rfl ?_
    refine ca_iload_n h dX12_handOver_57 rfl ?_
    refine ca_bipush h dX12_handOver_58 bk_7 ?_
    refine ca_iconst h dX12_handOver_60 ik_0 ?_
    refine ca_vv h hG ml_X12_147 (c_X12_put hs (f := 7) (by omega) (by decide)) (ci := 12) rfl rfl rfl (hs.1 _ _ _ ⟨rfl, rfl⟩) rfl rfl rfl rfl ⟨Nat.le_refl _, Nat.le_refl _⟩ rfl dX12_handOver_61 ?_
    refine ca_aload_nr h dX12_handOver_64 rfl ?_
    refine ca_iload_n h dX12_handOver_65 rfl ?_
    refine ca_vv h hG ml_X12_163 (c_X12_withdraw hs hm12) (ci := 12) rfl rfl rfl (hs.1 _ _ _ ⟨rfl, rfl⟩) rfl rfl rfl rfl ⟨Nat.le_refl _, Nat.le_refl _⟩ rfl dX12_handOver_66 ?_
    have hN5 : r_N (k_hom n2 m (nI t) (n 0 0 3 + n 0 0 6)) (r_hom w2 m s (nI t) (n 0 0 3 + n 0 0 6)) := r_N_hom hN2 (by rw [em]; exact hm) (by rw [e3]; exact ht) (by rw [e3]; exact h5) hs8 (by rw [ec]; exact htc)
    have e25 : (k_hom n2 m (nI t) (n 0 0 3 + n 0 0 6)) 2 = n 2 := by rw [k_hom_c hs8 (by rw [e3]; exact h5), nw_k (by decide), nw_k (by decide), nw_k (by decide), nw_k (by decide), e2]
    refine ca_mem (μ'' := r_wr μ (r_hom w2 m s (nI t) (n 0 0 3 + n 0 0 6))) (by simp only [r_wr_put, r_wr_at, r_wr_wr]; rfl) ?_
    rcases r_find hN5.2.2.2.1 hs8 ht8 hN5.2.2.2.2.2.2.1 with ⟨-, z⟩ | ⟨r, hr, hr24, e1, e4, -, ea, eb, -, es, -⟩
    · exact absurd (by rw [← e25]; exact z) hrel
    refine ca_aload_nr h dX12_handOver_69 rfl ?_
    refine ca_aload_nr h dX12_handOver_70 rfl ?_
    refine ca_aload_nr h dX12_handOver_71 rfl ?_
    refine gs_X12_9 h hs ⟨rfl, rfl⟩ dX12_handOver_72 ?_
    refine ca_iload_n h dX12_handOver_75 rfl ?_
    refine ca_iload_n h dX12_handOver_76 rfl ?_
    refine ca_vi h hG ml_X12_81 (c_X12_relationOf hs (by rw [r_wr_at]; exact r_24 hN5)) (ci := 12) rfl rfl rfl (hs.1 _ _ _ ⟨rfl, rfl⟩) rfl rfl rfl rfl ⟨Nat.le_refl _, Nat.le_refl _⟩ rfl dX12_handOver_77 ?_
    refine ca_top (show _ = nI r by rw [r_wr_at, e1]) ?_
    refine ca_iconst h dX12_handOver_80 ik_3 ?_
    refine ca_vv h hG ml_X12_201 (c_X12_addToRelation hs (f := 3) hr24 (by decide)) (ci := 12) rfl rfl rfl (hs.1 _ _ _ ⟨rfl, rfl⟩) rfl rfl rfl rfl ⟨Nat.le_refl _, Nat.le_refl _⟩ rfl dX12_handOver_81 ?_
    refine ca_vreturn h hR dX12_handOver_84 ?_
    refine ⟨rfl, rfl, _, by simp only [r_wr_put, r_wr_at, r_wr_wr]; rfl, ?_⟩
    rw [hek, ← es]
    exact r_N_rel hN5 hs8 ht8 hr ea eb (Or.inr (Or.inl rfl)) e4
  ·
    refine ca_aload_nr h dX12_handOver_21 rfl ?_
    refine ca_iconst h dX12_handOver_22 ik_1 ?_
    refine ca_vv h hG ml_X12_183 (c_X12_count hs (t := 1) (by decide)) (ci := 12) rfl rfl rfl (hs.1 _ _ _ ⟨rfl, rfl⟩) rfl rfl rfl rfl ⟨Nat.le_refl _, Nat.le_refl _⟩ rfl dX12_handOver_23 ?_
    obtain ⟨w2, hw2⟩ : ∃ z, z = (up (up (μ 16 23 0) (10 + 0) (μ 16 23 0 (10 + 0) + 1)) (10 + 1) ((up (μ 16 23 0) (10 + 0) (μ 16 23 0 (10 + 0) + 1)) (10 + 1) + 1)) := ⟨_, rfl⟩
    obtain ⟨n2, hn2⟩ : ∃ z, z = k_cnt (k_cnt n 0) 1 := ⟨_, rfl⟩
    have hN2 : r_N n2 w2 := by rw [hw2, hn2]; exact (r_N_tot hN1 (by decide))
    have e0 : n2 0 = n 0 := by rw [hn2]; exact (k_cnt_0 _ _).trans (k_cnt_0 _ _)
    have e3 : n2 3 = n 3 := by rw [hn2]; exact (k_cnt_3 _ _).trans (k_cnt_3 _ _)
    have e2 : n2 2 = n 2 := by rw [hn2]; exact (nw_k (by decide)).trans (nw_k (by decide))
    have hib : k_isb n m (nI t) (n 0 0 3) = true := by have c9 := bI_n0.mp c_18; rw [k_isb_c ht8] at c9 ⊢; rw [k_cnt_0] at c9; exact c9
    have em : k_mc n2 = k_mc n := by unfold k_mc; rw [e0]
    have ec : k_cc n2 = k_cc n := by unfold k_cc; rw [e0]
    have hek : k_ho n m (nI t) = _ := k_ho_eq (n2 := n2) hs8 ht8 h5 (by rw [hib, hn2]; rfl)
    refine ca_mem (μ'' := r_wr μ w2) (by rw [hw2]; simp only [r_wr_put, r_wr_at, r_wr_wr]) ?_
    refine ca_aload_nr h dX12_handOver_26 rfl ?_
    refine ca_iload_n h dX12_handOver_27 rfl ?_
    refine ca_iconst h dX12_handOver_28 ik_5 ?_
    refine ca_iload_n h dX12_handOver_29 rfl ?_
    refine ca_vv h hG ml_X12_147 (c_X12_put hs (f := 5) (by omega) (by decide)) (ci := 12) rfl rfl rfl (hs.1 _ _ _ ⟨rfl, rfl⟩) rfl rfl rfl rfl ⟨Nat.le_refl _, Nat.le_refl _⟩ rfl dX12_handOver_30 ?_
    refine ca_aload_nr h dX12_handOver_33 rfl ?_
    refine ca_iload_n h dX12_handOver_34 rfl ?_
    refine ca_bipush h dX12_handOver_35 bk_11 ?_
    refine ca_iload_n h dX12_handOver_37 rfl ?_
    refine ca_iadd h dX12_handOver_38 ?_
    refine ca_top (show _ = nI (11 + s) by rw [show (11 : Int32) = nI 11 from rfl, nI_add]) ?_
    refine ca_aload_nr h dX12_handOver_39 rfl ?_
    refine gs_X12_9 h hs ⟨rfl, rfl⟩ dX12_handOver_40 ?_
    refine ca_iconst h dX12_handOver_43 ik_3 ?_
    refine ca_iald h rfl (hs.1 _ _ _ ⟨rfl, rfl⟩) (vp_in_nI (n := 3) (N := 1302) (by decide) (by decide)) dX12_handOver_44 ?_
    refine ca_aload_nr h dX12_handOver_45 rfl ?_
    refine gs_X12_9 h hs ⟨rfl, rfl⟩ dX12_handOver_46 ?_
    refine ca_bipush h dX12_handOver_49 bk_6 ?_
    refine ca_iald h rfl (hs.1 _ _ _ ⟨rfl, rfl⟩) (vp_in_nI (n := 6) (N := 1302) (by decide) (by decide)) dX12_handOver_51 ?_
    refine ca_iadd h dX12_handOver_52 ?_
    refine ca_top (show _ = (n 0 0 3 + n 0 0 6) by simp only [r_wr_put, r_wr_at, r_wr_wr]; rw [cn3, cn6, up_n (by omega), up_n (by omega), hN2.1 3 (by decide), hN2.1 6 (by decide), e0]) ?_
    refine ca_vv h hG ml_X12_147 (c_X12_put hs hm12 (by omega)) (ci := 12) rfl rfl rfl (hs.1 _ _ _ ⟨rfl, rfl⟩) rfl rfl rfl rfl ⟨Nat.le_refl _, Nat.le_refl _⟩ rfl dX12_handOver_53 ?_
    refine ca_aload_nr h dX12_handOver_56 rfl ?_
    refine ca_iload_n h dX12_handOver_57 rfl ?_
    refine ca_bipush h dX12_handOver_58 bk_7 ?_
    refine ca_iconst h dX12_handOver_60 ik_0 ?_
    refine ca_vv h hG ml_X12_147 (c_X12_put hs (f := 7) (by omega) (by decide)) (ci := 12) rfl rfl rfl (hs.1 _ _ _ ⟨rfl, rfl⟩) rfl rfl rfl rfl ⟨Nat.le_refl _, Nat.le_refl _⟩ rfl dX12_handOver_61 ?_
    refine ca_aload_nr h dX12_handOver_64 rfl ?_
    refine ca_iload_n h dX12_handOver_65 rfl ?_
    refine ca_vv h hG ml_X12_163 (c_X12_withdraw hs hm12) (ci := 12) rfl rfl rfl (hs.1 _ _ _ ⟨rfl, rfl⟩) rfl rfl rfl rfl ⟨Nat.le_refl _, Nat.le_refl _⟩ rfl dX12_handOver_66 ?_
    have hN5 : r_N (k_hom n2 m (nI t) (n 0 0 3 + n 0 0 6)) (r_hom w2 m s (nI t) (n 0 0 3 + n 0 0 6)) := r_N_hom hN2 (by rw [em]; exact hm) (by rw [e3]; exact ht) (by rw [e3]; exact h5) hs8 (by rw [ec]; exact htc)
    have e25 : (k_hom n2 m (nI t) (n 0 0 3 + n 0 0 6)) 2 = n 2 := by rw [k_hom_c hs8 (by rw [e3]; exact h5), nw_k (by decide), nw_k (by decide), nw_k (by decide), nw_k (by decide), e2]
    refine ca_mem (μ'' := r_wr μ (r_hom w2 m s (nI t) (n 0 0 3 + n 0 0 6))) (by simp only [r_wr_put, r_wr_at, r_wr_wr]; rfl) ?_
    rcases r_find hN5.2.2.2.1 hs8 ht8 hN5.2.2.2.2.2.2.1 with ⟨-, z⟩ | ⟨r, hr, hr24, e1, e4, -, ea, eb, -, es, -⟩
    · exact absurd (by rw [← e25]; exact z) hrel
    refine ca_aload_nr h dX12_handOver_69 rfl ?_
    refine ca_aload_nr h dX12_handOver_70 rfl ?_
    refine ca_aload_nr h dX12_handOver_71 rfl ?_
    refine gs_X12_9 h hs ⟨rfl, rfl⟩ dX12_handOver_72 ?_
    refine ca_iload_n h dX12_handOver_75 rfl ?_
    refine ca_iload_n h dX12_handOver_76 rfl ?_
    refine ca_vi h hG ml_X12_81 (c_X12_relationOf hs (by rw [r_wr_at]; exact r_24 hN5)) (ci := 12) rfl rfl rfl (hs.1 _ _ _ ⟨rfl, rfl⟩) rfl rfl rfl rfl ⟨Nat.le_refl _, Nat.le_refl _⟩ rfl dX12_handOver_77 ?_
    refine ca_top (show _ = nI r by rw [r_wr_at, e1]) ?_
    refine ca_iconst h dX12_handOver_80 ik_3 ?_
    refine ca_vv h hG ml_X12_201 (c_X12_addToRelation hs (f := 3) hr24 (by decide)) (ci := 12) rfl rfl rfl (hs.1 _ _ _ ⟨rfl, rfl⟩) rfl rfl rfl rfl ⟨Nat.le_refl _, Nat.le_refl _⟩ rfl dX12_handOver_81 ?_
    refine ca_vreturn h hR dX12_handOver_84 ?_
    refine ⟨rfl, rfl, _, by simp only [r_wr_put, r_wr_at, r_wr_wr]; rfl, ?_⟩
    rw [hek, ← es]
    exact r_N_rel hN5 hs8 ht8 hr ea eb (Or.inr (Or.inl rfl)) e4
