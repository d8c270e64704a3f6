/-! THE REFERENCE: a handover considered -/
def r_wq (μ : ch_M) (a b : Nat → Int32) (x : Int32) (w : Nat → Int32) : ch_M := r_wr (up μ 16 (r_pq (μ 16) a b x)) w
theorem r_wq_at (μ : ch_M) (a b : Nat → Int32) (x : Int32) (w : Nat → Int32) : r_wq μ a b x w 16 23 0 = w := r_wr_at _ _
theorem r_wr_wq (μ : ch_M) (a b : Nat → Int32) (x : Int32) (w w' : Nat → Int32) : r_wr (r_wq μ a b x w) w' = r_wq μ a b x w' := r_wr_wr _ _ _
theorem r_wq_put (μ : ch_M) (a b : Nat → Int32) (x : Int32) (w : Nat → Int32) (j : Nat) (v : Int32) : up (r_wq μ a b x w) 16 (nw (r_wq μ a b x w 16) 23 0 j v) = r_wq μ a b x (up w j v) := r_wr_put _ _ _ _
theorem r_wq_0 (μ : ch_M) (a b : Nat → Int32) (x : Int32) : up μ 16 (r_pq (μ 16) a b x) = r_wq μ a b x (μ 16 23 0) := by
  unfold r_wq r_wr
  rw [up_s, up_up]
  congr 1
  have e : r_pq (μ 16) a b x 23 0 = μ 16 23 0 := by rw [r_pq_23]
  rw [← e, na_id]
theorem r_wq_16 (μ : ch_M) (a b : Nat → Int32) (x : Int32) (w : Nat → Int32) : r_wq μ a b x w 16 = na (r_pq (μ 16) a b x) 23 0 w := by unfold r_wq r_wr; rw [up_s, up_s]
theorem r_wq_28 (μ : ch_M) (a b : Nat → Int32) (x : Int32) (w : Nat → Int32) : r_wq μ a b x w 16 28 0 = a := by rw [r_wq_16, na_k (by decide), r_pq_a]
theorem r_wq_29 (μ : ch_M) (a b : Nat → Int32) (x : Int32) (w : Nat → Int32) : r_wq μ a b x w 16 29 0 = b := by rw [r_wq_16, na_k (by decide), r_pq_b]
theorem r_wq_x (μ : ch_M) (a b : Nat → Int32) (x : Int32) (w : Nat → Int32) : r_wq μ a b x w 16 22 0 10 = x := by rw [r_wq_16, na_k (by decide), r_pq_x]
theorem r_pq_na (p : ch_N) (a b : Nat → Int32) (x : Int32) (w : Nat → Int32) : r_pq (na p 23 0 w) a b x = na (r_pq p a b x) 23 0 w := by
  funext u i j
  unfold r_pq
  simp only [nw_at, na_at]
  by_cases h1 : u = 23 ∧ i = 0
  · obtain ⟨rfl, rfl⟩ := h1; simp
  · simp only [if_neg h1]
theorem r_pq_pq (p : ch_N) (a b a' b' : Nat → Int32) (x x' : Int32) : r_pq (r_pq p a b x) a' b' x' = r_pq p a' b' x' := by
  funext u i j
  unfold r_pq
  simp only [nw_at, na_at]
  by_cases h1 : u = 22 ∧ i = 0 ∧ j = 10
  · rw [if_pos h1, if_pos h1]
  · simp only [if_neg h1]
    by_cases h2 : u = 29 ∧ i = 0
    · simp only [if_pos h2]
    · simp only [if_neg h2]
      by_cases h3 : u = 28 ∧ i = 0
      · simp only [if_pos h3]
      · simp only [if_neg h3]
theorem r_wq_pq (μ : ch_M) (a b a' b' : Nat → Int32) (x x' : Int32) (w : Nat → Int32) : up (r_wq μ a b x w) 16 (r_pq (r_wq μ a b x w 16) a' b' x') = r_wq μ a' b' x' w := by
  rw [r_wq_16, r_pq_na, r_pq_pq]
  unfold r_wq r_wr
  rw [up_up, up_s, up_up, up_up]
theorem r_wq_wq (μ : ch_M) (a b a' b' : Nat → Int32) (x x' : Int32) (w w' : Nat → Int32) : r_wq (r_wq μ a b x w) a' b' x' w' = r_wq μ a' b' x' w' := by
  show r_wr (up (r_wq μ a b x w) 16 (r_pq (r_wq μ a b x w 16) a' b' x')) w' = _
  rw [r_wq_pq, r_wr_wq]
theorem r_wq_wr (μ : ch_M) (w : Nat → Int32) : r_wr μ w = r_wq μ (μ 16 28 0) (μ 16 29 0) (μ 16 22 0 10) w := by unfold r_wq; rw [r_pq_id, up_id]
theorem r_wq_id (μ : ch_M) : μ = r_wq μ (μ 16 28 0) (μ 16 29 0) (μ 16 22 0 10) (μ 16 23 0) := by rw [← r_wq_wr, r_wr_id]
def r_Y (n : ch_N) (S : ch_S) (μ : ch_M) : Option Value → ch_S → ch_M → Prop := ch_FX none S (fun μ' => ∃ a b x w', μ' = r_wq μ a b x w' ∧ r_N n w')
theorem k_ins_in {q : ch_N} {c v : Int32} {t : Nat} (ht : t < 8) (h2 : q 17 0 0 = nI t) : (k_ins q c v) 17 0 0 = nI (t + 1) ∧ (k_ins q c v) 17 0 1 = q 17 0 1 ∧ ∀ j, j < t + 1 → (k_ins q c v) 18 0 j = c ∨ ∃ i, i < t ∧ (k_ins q c v) 18 0 j = q 18 0 i := by
  have hP := k_sp_le (q 19 0) v t
  have ect : Int32.toNatClampNeg (q 17 0 0) = t := by rw [h2]; exact nI_clamp (by omega)
  have hlt : q 17 0 0 < 8 := by rw [h2]; exact nI_lt (b := 8) ht (by decide)
  refine ⟨?_, ?_, fun j hj => ?_⟩
  · unfold k_ins
    rw [if_pos hlt, nw_at, if_pos ⟨rfl, rfl, rfl⟩, h2, nI_1]
  · unfold k_ins
    rw [if_pos hlt]
    simp [nw_at, na_at]
  · have e18 : k_ins q c v 18 0 j = up (k_sh (q 18 0) (k_sp (q 19 0) v t) t) (k_sp (q 19 0) v t) c j := by
      unfold k_ins up
      rw [if_pos hlt, ect]
      simp [nw_at, na_at]
    rw [e18]
    generalize k_sp (q 19 0) v t = P at *
    by_cases e : j = P
    · subst e; rw [up_s]; exact Or.inl rfl
    · rw [up_n e]
      unfold k_sh
      by_cases hs : P < j ∧ j ≤ t
      · rw [if_pos hs]; exact Or.inr ⟨j - 1, by omega, rfl⟩
      · rw [if_neg hs]; exact Or.inr ⟨j, by omega, rfl⟩
theorem k_rkL_in {n : ch_N} {em : Int32} {i : Nat} {q0 : ch_N} (h0 : q0 17 0 0 = 0) : ∀ N, N ≤ 8 → (k_rkL n em i N q0) 17 0 1 = q0 17 0 1 ∧ ∃ t, t ≤ N ∧ (k_rkL n em i N q0) 17 0 0 = nI t ∧ ∀ j, j < t → ∃ c, c < N ∧ (k_rkL n em i N q0) 18 0 j = nI c ∧ 0 < k_mg n em i (nI c)
  | 0, _ => ⟨rfl, 0, Nat.le_refl _, h0, fun j hj => absurd hj (Nat.not_lt_zero _)⟩
  | N + 1, hN => by
    obtain ⟨g1, t, g2, g3, g4⟩ := k_rkL_in h0 N (by omega)
    have e : k_rkL n em i (N + 1) q0 = if 0 < k_mg n em i (nI N) then k_ins (k_rkL n em i N q0) (nI N) (k_mg n em i (nI N)) else k_rkL n em i N q0 := rfl
    by_cases hp : 0 < k_mg n em i (nI N)
    · rw [e, if_pos hp]
      obtain ⟨k1, k2, k3⟩ := k_ins_in (c := nI N) (v := k_mg n em i (nI N)) (show t < 8 by omega) g3
      refine ⟨by rw [k2, g1], t + 1, by omega, k1, fun j hj => ?_⟩
      rcases k3 j hj with z | ⟨u, hu, z⟩
      · exact ⟨N, by omega, z, hp⟩
      · obtain ⟨c, hc, gc, gm⟩ := g4 u hu
        exact ⟨c, by omega, by rw [z, gc], gm⟩
    · rw [e, if_neg hp]
      refine ⟨g1, t, by omega, g3, fun j hj => ?_⟩
      obtain ⟨c, hc, gc, gm⟩ := g4 j hj
      exact ⟨c, by omega, gc, gm⟩
theorem k_mg_rel {n : ch_N} {em : Int32} {i : Nat} {c : Int32} (h : 0 < k_mg n em i c) : ¬ n 2 (k_rx (n 3 i 5) c) 0 = 0 := fun z => by
  unfold k_mg at h
  rw [if_pos z] at h
  exact absurd h (by decide)
theorem k_rank_in {n q : ch_N} {i : Nat} (hcc : k_cc n ≤ 8) : ∃ t, t ≤ k_cc n ∧ (k_rank n q i) 17 0 0 = nI t ∧ (∀ j, j < t → ∃ c, c < k_cc n ∧ (k_rank n q i) 18 0 j = nI c ∧ ¬ n 2 (k_rx (n 3 i 5) (nI c)) 0 = 0) ∧ (0 < t → ¬ k_avg n i (n 3 i 5) = -1 ∧ (k_rank n q i) 17 0 1 = k_em n i) := by
  unfold k_rank
  by_cases h : k_avg n i (n 3 i 5) = -1
  · rw [if_pos h]
    exact ⟨0, Nat.zero_le _, by simp [nw_at]; rfl, fun j hj => absurd hj (Nat.not_lt_zero _), fun z => absurd z (Nat.lt_irrefl 0)⟩
  · rw [if_neg h]
    obtain ⟨g1, t, g2, g3, g4⟩ := k_rkL_in (n := n) (em := k_em n i) (i := i) (q0 := nw (nw q 17 0 0 0) 17 0 1 (k_em n i)) (by simp [nw_at]) (k_cc n) hcc
    refine ⟨t, g2, g3, fun j hj => ?_, fun _ => ⟨h, by rw [g1, nw_at, if_pos ⟨rfl, rfl, rfl⟩]⟩⟩
    obtain ⟨c, hc, gc, gm⟩ := g4 j hj
    exact ⟨c, hc, gc, k_mg_rel gm⟩
theorem k_car_c {q : ch_N} {j t : Nat} (h : q 17 0 0 = nI t) (hj : j < t) (ht : t ≤ 8) : k_car q (nI j) = q 18 0 j := by
  unfold k_car
  rw [if_neg (nI_pos (by omega)), h, if_pos (nI_lt hj (by omega)), if_pos (show nI j < 8 from nI_lt (b := 8) (by omega) (by decide)), nI_clamp (by omega)]
theorem k_em_congr {n n' : ch_N} {i : Nat} (h1 : n' 1 = n 1) (h3 : n' 3 = n 3) (h4 : n' 4 = n 4) (h5 : n' 5 = n 5) : k_em n' i = k_em n i := by
  have e : ∀ a q, k_sum n' i a q = k_sum n i a q := fun a q => by
    induction q with
    | zero => rfl
    | succ q ih => show k_sum n' i a q + n' 4 i (a + q) = k_sum n i a q + n 4 i (a + q); rw [ih, h4]
  unfold k_em k_avg k_rep
  rw [h1, h3, h5, e]
theorem k_c1_s {q n : ch_N} {i N j : Nat} {c : Int32} {idx : Nat} (hi : N - (j + 1) = idx) (hc : k_car q (nI idx) = c) : k_c1 q i N (j + 1) n = if k_free n c = true then (true, k_ho n i c) else k_c1 q i N j (k_ref n i c) := by
  subst hi; subst hc; rfl
theorem k_c2_s {q n : ch_N} {i N j : Nat} {c : Int32} {idx : Nat} (hi : N - (j + 1) = idx) (hc : k_car q (nI idx) = c) : k_c2 q i N (j + 1) n = if k_place n c = true then k_mrq n i c (n 0 0 3) else k_c2 q i N j n := by
  subst hi; subst hc; rfl
theorem k_ch_1 {n q q1 : ch_N} {i t : Nat} (hq : q1 = k_rank n q i) (ht : q1 17 0 0 = nI t) (htb : t ≤ 8) : (k_ch n q i).1 = if (k_c1 q1 i t t n).1 = true then (k_c1 q1 i t t n).2 else if q1 17 0 1 = 0 then (k_c1 q1 i t t n).2 else k_c2 q1 i t t (k_c1 q1 i t t n).2 := by
  unfold k_ch
  dsimp only
  rw [← hq, ht, nI_clamp (by omega)]
/-- a talking mobile's request made -/
theorem r_N_rqT {n : ch_N} {w : Nat → Int32} {m c : Nat} (h : r_N n w) (hm : m < k_mc n) (ht : n 3 m 4 = 1) (hc : c < k_cc n) (hrel : ¬ n 2 (k_rx (n 3 m 5) (nI c)) 0 = 0) : r_N (k_mrq n m (nI c) (n 0 0 3)) (r_rq w m (nI c) 0 (w 3)) := by
  have hc8 := r_c8 h hc
  have hw3 := h.1 3 (by decide)
  obtain ⟨a1, a2, a3, a4, a5, a6, a7, a8, a9, a10, a11, a12, a13, a14⟩ := h.2.2.2.2.1 m hm
  have hwf := k_mrq_wf h.2.2.2.2.2 m (nI c) (n 0 0 3)
  have e3 : ∀ j, (k_mrq n m (nI c) (n 0 0 3)) 3 m j = if j = 9 then n 0 0 3 else if j = 8 then nI c else n 3 m j := by
    intro j
    unfold k_mrq
    simp only [nw_at]
    by_cases g9 : j = 9
    · subst g9; simp
    by_cases g8 : j = 8
    · subst g8; simp
    simp [g9, g8]
  have ek : ∀ kd, kd ≠ 3 → (k_mrq n m (nI c) (n 0 0 3)) kd = n kd := fun kd h3 => by unfold k_mrq; rw [nw_k h3, nw_k h3]
  have hoff : ∀ kd i, i ≠ m → (k_mrq n m (nI c) (n 0 0 3)) kd i = n kd i := fun kd i hi => by funext j; unfold k_mrq; simp [nw_at, hi]
  generalize k_mrq n m (nI c) (n 0 0 3) = n' at *
  have ec : k_cc n' = k_cc n := by unfold k_cc; rw [ek 0 (by decide)]
  have ew : ∀ i, r_rq w m (nI c) 0 (w 3) i = if i = 210 + 91 * m + 10 then w 3 else if i = 210 + 91 * m + 9 then 0 else if i = 210 + 91 * m + 8 then nI c else w i := fun i => rfl
  have s4 : n' 3 m 4 = 1 := by rw [e3, if_neg (by decide), if_neg (by decide), ht]
  have s8 : n' 3 m 8 = nI c := by rw [e3, if_neg (by decide), if_pos rfl]
  have s9 : n' 3 m 9 = n 0 0 3 := by rw [e3, if_pos rfl]
  have s5 : n' 3 m 5 = n 3 m 5 := by rw [e3, if_neg (by decide), if_neg (by decide)]
  refine r_N_mob h hm (fun kd h3 _ _ _ => ek kd h3) hoff (fun j hj => by rw [ew, if_neg (by omega), if_neg (by omega), if_neg (by omega)]) ?_ hwf
  unfold r_M
  rw [s4, s8, s9, s5, ek 2 (by decide), ek 4 (by decide), ek 5 (by decide), ek 6 (by decide), ec]
  refine ⟨fun f hf => ?_, by rw [ew, if_neg (by omega), if_neg (by omega), if_pos rfl], fun _ => ⟨?_, fun d hd => ?_⟩, fun _ => ⟨by rw [ew, if_pos rfl, hw3], by rw [ew, if_neg (by omega), if_pos rfl]; rfl⟩, Or.inr (Or.inl rfl), fun _ => a6 ht, fun z => absurd rfl z, fun z => absurd z (by decide), fun z => absurd z (by decide), Or.inr ⟨c, hc, rfl⟩, fun _ => ?_, fun _ d hd z => ?_, ?_, fun _ => a14 ht⟩
  · rw [ew, if_neg (by omega), if_neg (by omega), if_neg (by omega), e3, if_neg (by omega), if_neg (by omega)]; exact a1 f hf
  · rw [ew, if_neg (by omega), if_neg (by omega), if_neg (by omega), e3, if_neg (by omega), if_neg (by omega)]; exact (a3 ht).1
  · obtain ⟨b1, b2, b3⟩ := (a3 ht).2 d hd
    refine ⟨by rw [ew, if_neg (by omega), if_neg (by omega), if_neg (by omega)]; exact b1, by rw [ew, if_neg (by omega), if_neg (by omega), if_neg (by omega)]; exact b2, fun k hk => by rw [ew, if_neg (by omega), if_neg (by omega), if_neg (by omega)]; exact b3 k hk⟩
  · rw [e3, if_neg (by omega), if_neg (by omega)]; exact a11 (by rw [ht]; decide)
  · have := (nI_eq (by omega) (by omega)).mp z
    subst this
    exact hrel
  · rw [e3, e3, if_neg (by omega), if_neg (by omega), if_neg (by omega), if_neg (by omega)]; exact a13
set_option maxHeartbeats 100000 in
theorem c_X12_consider {l : Launch} {E : ch_E} {S : ch_S} {μ : ch_M} (hs : ch_Std E S) {n : ch_N} (hN : r_N n (μ 16 23 0)) {q : ch_N} {m : Nat} (hm : m < k_mc n) (ht : n 3 m 4 = 1) : ch_C E l yX12_consider cX12_consider 4 none 6 0 0 S μ [.ref (S.1 16 22 0), .int (nI m)] (r_Y (k_ch n q m).1 S μ) := by
  refine ch_enter rfl rfl ?_
  intro X hl0 h hG hR hnm
  have h : ch_H X E RX12 cX12_consider 4 := h
  have hm12 := r_m12 hN hm
  obtain ⟨s, hsc, h5⟩ := r_sv hN hm ht
  have hs8 := r_c8 hN hsc
  have hcc := hN.2.2.2.2.2.2.1
  show ch_W X E 4 S μ 0 0 0 [(0, .ref (S.1 16 22 0)), (1, .int (nI m))] []
  refine ca_aload_nr h dX12_consider_0 rfl ?_
  refine ca_iload_n h dX12_consider_1 rfl ?_
  refine ca_vXv h hG ml_X12_217 (c_X12_rank hs hN (q := q) hm ht) (ci := 12) rfl rfl rfl (hs.1 _ _ _ ⟨rfl, rfl⟩) rfl rfl rfl rfl ⟨Nat.le_refl _, Nat.le_refl _⟩ rfl dX12_consider_2 ?_
  intro μ9 hμ9
  obtain ⟨a, b, x, rfl, hq⟩ := hμ9
  refine ca_mem (r_wq_0 _ _ _ _) ?_
  obtain ⟨q1, hq1⟩ : ∃ z, z = k_rank n q m := ⟨_, rfl⟩
  obtain ⟨u, hub, e17u, hin, hemt⟩ := k_rank_in (n := n) (q := q) (i := m) hcc
  rw [← hq1] at hq e17u hin hemt
  obtain ⟨t, htc, e17, ex, hall⟩ := hq
  have ett : u = t := (nI_eq (by omega) (by omega)).mp (e17u.symm.trans e17)
  rw [ett] at hin hemt
  subst ex
  refine ca_aload_nr h dX12_consider_5 rfl ?_
  refine ca_iload_n h dX12_consider_6 rfl ?_
  refine ca_iconst h dX12_consider_7 ik_5 ?_
  refine ca_vi h hG ml_X12_77 (c_X12_of hs hm12 (by decide)) (ci := 12) rfl rfl rfl (hs.1 _ _ _ ⟨rfl, rfl⟩) rfl rfl rfl rfl ⟨Nat.le_refl _, Nat.le_refl _⟩ rfl dX12_consider_8 ?_
  rw [r_wq_at, r_f hN hm (f := 5) (by decide), h5]
  refine ca_istore_n h dX12_consider_11 rfl ?_
  refine ca_iconst h dX12_consider_12 ik_0 ?_
  refine ca_istore_n h dX12_consider_13 rfl ?_
  have loop_14 : ∀ (jj j : Nat), j + jj = t → ∀ (x3 : Int32) (e3 : x3 = nI j) (nj : ch_N) (w : Nat → Int32) (hNj : r_N nj w) (heq : k_c1 q1 m t t n = k_c1 q1 m t jj nj) (ek : ∀ kd, kd ≠ 2 → nj kd = n kd) (e20 : ∀ u, nj 2 u 0 = n 2 u 0) (mm : ch_M) (em : mm = r_wq μ a b (nI t) w), ch_W X E 4 S mm 0 0 14 [(0, .ref (S.1 16 22 0)), (1, .int (nI m)), (2, .int (nI s)), (3, .int x3)] [] := by
    intro jj
    induction jj with
    | zero =>
      intro j hn x3 e3 nj w hNj heq ek e20 mm em
      have hn : j = t := by omega
      subst e3 em
      have ecc : k_cc nj = k_cc n := by unfold k_cc; rw [ek 0 (by decide)]
      have emm : k_mc nj = k_mc n := by unfold k_mc; rw [ek 0 (by decide)]
      refine ca_iload_n h dX12_consider_14 rfl ?_
      refine ca_aload_nr h dX12_consider_15 rfl ?_
      refine gi_X12_207 h (hs.1 _ _ _ ⟨rfl, rfl⟩) dX12_consider_16 ?_
      refine ca_top (show _ = nI t by rw [r_wq_x]) ?_
      refine ca_icmp_ge (tgt := 73) h dX12_consider_19 (by decide) (fun c_19 => ?_) (fun c_19 => ?_)
      ·
        refine ca_iconst h dX12_consider_73 ik_0 ?_
        refine ca_istore_n h dX12_consider_74 rfl ?_
        have loop_75 : ∀ (jj k : Nat), k + jj = t → ∀ (x3 : Int32) (e3 : x3 = nI k) (heq2 : k_c2 q1 m t t nj = k_c2 q1 m t jj nj), ch_W X E 4 S (r_wq μ a b (nI t) w) 0 0 75 [(0, .ref (S.1 16 22 0)), (1, .int (nI m)), (2, .int (nI s)), (3, .int x3)] [] := by
          intro jj
          induction jj with
          | zero =>
            intro k hn x3 e3 heq2
            have hn : k = t := by omega
            subst e3
            refine ca_iload_n h dX12_consider_75 rfl ?_
            refine ca_aload_nr h dX12_consider_76 rfl ?_
            refine gi_X12_207 h (hs.1 _ _ _ ⟨rfl, rfl⟩) dX12_consider_77 ?_
            refine ca_top (show _ = nI t by rw [r_wq_x]) ?_
            refine ca_icmp_ge (tgt := 123) h dX12_consider_80 (by decide) (fun c_80 => ?_) (fun c_80 => ?_)
            ·
              refine ca_vreturn h hR dX12_consider_123 ?_
              refine ⟨rfl, rfl, a, b, nI t, w, rfl, ?_⟩
              rw [k_ch_1 hq1 e17 (by omega), heq, show k_c1 q1 m t 0 nj = (false, nj) from rfl]
              rw [if_neg (show ¬ false = true from Bool.false_ne_true), heq2]; split <;> exact hNj
            · exact absurd c_80 (nI_nlt (by omega) (by omega))
          | succ jj ih_75 =>
            intro k hn x3 e3 heq2
            have hn1 : k < t := by omega
            subst e3
            refine ca_iload_n h dX12_consider_75 rfl ?_
            refine ca_aload_nr h dX12_consider_76 rfl ?_
            refine gi_X12_207 h (hs.1 _ _ _ ⟨rfl, rfl⟩) dX12_consider_77 ?_
            refine ca_top (show _ = nI t by rw [r_wq_x]) ?_
            refine ca_icmp_ge (tgt := 123) h dX12_consider_80 (by decide) (fun c_80 => ?_) (fun c_80 => ?_)
            · exact absurd (nI_lt hn1 (by omega)) c_80
            ·
              obtain ⟨g1, -⟩ := hall k hn1
              obtain ⟨c, hc, gc, hrel⟩ := hin k hn1
              have hc8 := r_c8 hN hc
              have hcar : k_car q1 (nI k) = nI c := by rw [k_car_c e17 (by omega) (by omega), gc]
              have hemg := hemt (by omega)
              have hp : 0 < n 5 m s := by rcases r_avg hN hm ht hs8 with ⟨-, y⟩ | ⟨y, -⟩; exact absurd (by rw [h5]; exact y) hemg.1; exact y
              rw [h5, r_rx hs8 hc8] at hrel
              refine ca_aload_nr h dX12_consider_83 rfl ?_
              refine ca_iload_n h dX12_consider_84 rfl ?_
              refine ca_vi h hG ml_X12_210 (c_X12_isEmergency hs (n := nj) (by rw [r_wq_at]; exact hNj) (by rw [emm]; exact hm) (by rw [ek 3 (by decide)]; exact ht) (by rw [ecc]; exact hsc) (by rw [ek 3 (by decide)]; exact h5) (by rw [ek 5 (by decide)]; exact hp)) (ci := 12) rfl rfl rfl (hs.1 _ _ _ ⟨rfl, rfl⟩) rfl rfl rfl rfl ⟨Nat.le_refl _, Nat.le_refl _⟩ rfl dX12_consider_85 ?_
              rw [k_em_congr (ek 1 (by decide)) (ek 3 (by decide)) (ek 4 (by decide)) (ek 5 (by decide))]
              refine ca_if_eq (tgt := 123) h dX12_consider_88 (by decide) (fun c_88 => ?_) (fun c_88 => ?_)
              ·
                have hec := c_88
                refine ca_vreturn h hR dX12_consider_123 ?_
                refine ⟨rfl, rfl, a, b, nI t, w, rfl, ?_⟩
                rw [k_ch_1 hq1 e17 (by omega), heq, show k_c1 q1 m t 0 nj = (false, nj) from rfl]
                rw [if_neg (show ¬ false = true from Bool.false_ne_true), if_pos (by rw [hemg.2]; exact hec)]; exact hNj
              ·
                have hec := c_88
                refine ca_aload_nr h dX12_consider_91 rfl ?_
                refine ca_aload_nr h dX12_consider_92 rfl ?_
                refine gs_X12_25 h hs ⟨rfl, rfl⟩ dX12_consider_93 ?_
                refine ca_iload_n h dX12_consider_96 rfl ?_
                refine ca_iald h rfl (hs.1 _ _ _ ⟨rfl, rfl⟩) (vp_in_nI (by omega) (by decide)) dX12_consider_97 ?_
                refine ca_top (show _ = nI c by rw [r_wq_28, nI_clamp (by omega), g1, gc]) ?_
                refine ca_vi h hG ml_X12_186 (c_X12_hasRoom hs (n := nj) (by rw [r_wq_at]; exact hNj) (by rw [ecc]; exact hc)) (ci := 12) rfl rfl rfl (hs.1 _ _ _ ⟨rfl, rfl⟩) rfl rfl rfl rfl ⟨Nat.le_refl _, Nat.le_refl _⟩ rfl dX12_consider_98 ?_
                refine ca_if_eq (tgt := 117) h dX12_consider_101 (by decide) (fun c_101 => ?_) (fun c_101 => ?_)
                ·
                  refine ca_iinc h dX12_consider_117 rfl ik_1 rfl ?_
                  refine ca_goto (tgt := 75) h dX12_consider_120 (by decide) ?_
                  refine ca_pick [1, 2, 3, 0] rfl ?_
                  exact ih_75 (k + 1) (by omega) _ (nI_1 k) (by rw [heq2, k_c2_s (idx := k) (by omega) hcar, if_neg (fun z => bI_n0.mpr z c_101)])
                ·
                  refine ca_aload_nr h dX12_consider_104 rfl ?_
                  refine ca_iload_n h dX12_consider_105 rfl ?_
                  refine ca_aload_nr h dX12_consider_106 rfl ?_
                  refine gs_X12_25 h hs ⟨rfl, rfl⟩ dX12_consider_107 ?_
                  refine ca_iload_n h dX12_consider_110 rfl ?_
                  refine ca_iald h rfl (hs.1 _ _ _ ⟨rfl, rfl⟩) (vp_in_nI (by omega) (by decide)) dX12_consider_111 ?_
                  refine ca_top (show _ = nI c by rw [r_wq_28, nI_clamp (by omega), g1, gc]) ?_
                  refine ca_iconst h dX12_consider_112 ik_0 ?_
                  refine ca_vv h hG ml_X12_189 (c_X12_request hs hm12) (ci := 12) rfl rfl rfl (hs.1 _ _ _ ⟨rfl, rfl⟩) rfl rfl rfl rfl ⟨Nat.le_refl _, Nat.le_refl _⟩ rfl dX12_consider_113 ?_
                  refine ca_vreturn h hR dX12_consider_116 ?_
                  refine ⟨rfl, rfl, a, b, nI t, _, by simp only [r_wr_wq]; rfl, ?_⟩
                  rw [k_ch_1 hq1 e17 (by omega), heq, show k_c1 q1 m t 0 nj = (false, nj) from rfl]
                  rw [if_neg (show ¬ false = true from Bool.false_ne_true), if_neg (by rw [hemg.2]; exact hec), heq2, k_c2_s (idx := k) (by omega) hcar, if_pos (bI_n0.mp c_101)]; rw [r_wq_at]; exact r_N_rqT hNj (by rw [emm]; exact hm) (by rw [ek 3 (by decide)]; exact ht) (by rw [ecc]; exact hc) (by rw [ek 3 (by decide), h5, r_rx hs8 (r_c8 hN hc), e20]; exact hrel)
        refine ca_pick [1, 2, 3, 0] rfl ?_
        exact loop_75 _ 0 (Nat.zero_add _) _ rfl rfl
      · exact absurd c_19 (nI_nlt (by omega) (by omega))
    | succ jj ih_14 =>
      intro j hn x3 e3 nj w hNj heq ek e20 mm em
      have hn1 : j < t := by omega
      subst e3 em
      have ecc : k_cc nj = k_cc n := by unfold k_cc; rw [ek 0 (by decide)]
      have emm : k_mc nj = k_mc n := by unfold k_mc; rw [ek 0 (by decide)]
      obtain ⟨g1, -⟩ := hall j hn1
      obtain ⟨c, hc, gc, hrel⟩ := hin j hn1
      have hc8 := r_c8 hN hc
      have hcar : k_car q1 (nI j) = nI c := by rw [k_car_c e17 (by omega) (by omega), gc]
      rw [h5, r_rx hs8 hc8] at hrel
      refine ca_iload_n h dX12_consider_14 rfl ?_
      refine ca_aload_nr h dX12_consider_15 rfl ?_
      refine gi_X12_207 h (hs.1 _ _ _ ⟨rfl, rfl⟩) dX12_consider_16 ?_
      refine ca_top (show _ = nI t by rw [r_wq_x]) ?_
      refine ca_icmp_ge (tgt := 73) h dX12_consider_19 (by decide) (fun c_19 => ?_) (fun c_19 => ?_)
      · exact absurd (nI_lt hn1 (by omega)) c_19
      ·
        refine ca_aload_nr h dX12_consider_22 rfl ?_
        refine ca_aload_nr h dX12_consider_23 rfl ?_
        refine gs_X12_25 h hs ⟨rfl, rfl⟩ dX12_consider_24 ?_
        refine ca_iload_n h dX12_consider_27 rfl ?_
        refine ca_iald h rfl (hs.1 _ _ _ ⟨rfl, rfl⟩) (vp_in_nI (by omega) (by decide)) dX12_consider_28 ?_
        refine ca_top (show _ = nI c by rw [r_wq_28, nI_clamp (by omega), g1, gc]) ?_
        refine ca_vi h hG ml_X12_167 (c_X12_hasFreeChannel hs (n := nj) (by rw [r_wq_at]; exact hNj) (by rw [ecc]; exact hc)) (ci := 12) rfl rfl rfl (hs.1 _ _ _ ⟨rfl, rfl⟩) rfl rfl rfl rfl ⟨Nat.le_refl _, Nat.le_refl _⟩ rfl dX12_consider_29 ?_
        refine ca_if_eq (tgt := 47) h dX12_consider_32 (by decide) (fun c_32 => ?_) (fun c_32 => ?_)
        ·
          refine ca_aload_nr h dX12_consider_47 rfl ?_
          refine ca_aload_nr h dX12_consider_48 rfl ?_
          refine ca_aload_nr h dX12_consider_49 rfl ?_
          refine gs_X12_9 h hs ⟨rfl, rfl⟩ dX12_consider_50 ?_
          refine ca_iload_n h dX12_consider_53 rfl ?_
          refine ca_aload_nr h dX12_consider_54 rfl ?_
          refine gs_X12_25 h hs ⟨rfl, rfl⟩ dX12_consider_55 ?_
          refine ca_iload_n h dX12_consider_58 rfl ?_
          refine ca_iald h rfl (hs.1 _ _ _ ⟨rfl, rfl⟩) (vp_in_nI (by omega) (by decide)) dX12_consider_59 ?_
          refine ca_top (show _ = nI c by rw [r_wq_28, nI_clamp (by omega), g1, gc]) ?_
          refine ca_vi h hG ml_X12_81 (c_X12_relationOf hs (by rw [r_wq_at]; exact r_24 hNj)) (ci := 12) rfl rfl rfl (hs.1 _ _ _ ⟨rfl, rfl⟩) rfl rfl rfl rfl ⟨Nat.le_refl _, Nat.le_refl _⟩ rfl dX12_consider_60 ?_
          rcases r_find hNj.2.2.2.1 hs8 hc8 hNj.2.2.2.2.2.2.1 with ⟨-, z⟩ | ⟨r, hr, hr24, e1, e2, -, ea, eb, -, -, es⟩
          · exact absurd z (by rw [e20]; exact hrel)
          rw [r_wq_at, e1]
          refine ca_iconst h dX12_consider_63 ik_4 ?_
          refine ca_vv h hG ml_X12_201 (c_X12_addToRelation hs hr24 (f := 4) (by decide)) (ci := 12) rfl rfl rfl (hs.1 _ _ _ ⟨rfl, rfl⟩) rfl rfl rfl rfl ⟨Nat.le_refl _, Nat.le_refl _⟩ rfl dX12_consider_64 ?_
          refine ca_iinc h dX12_consider_67 rfl ik_1 rfl ?_
          refine ca_goto (tgt := 14) h dX12_consider_70 (by decide) ?_
          refine ca_pick [1, 2, 3, 0] rfl ?_
          have ekr : k_ref nj m (nI c) = nw nj 2 (8 * s + c) 3 (nj 2 (8 * s + c) 3 + 1) := by unfold k_ref; rw [ek 3 (by decide), h5, r_rx hs8 hc8]
          have hNr := r_N_rel (f := 3) (v := w (90 + 5 * r + 4) + 1) hNj hs8 hc8 hr ea eb (Or.inr (Or.inr rfl)) e2
          rw [es] at hNr
          exact ih_14 (j + 1) (by omega) _ (nI_1 j) (k_ref nj m (nI c)) _ (by rw [ekr]; exact hNr) (by rw [heq, k_c1_s (idx := j) (by omega) hcar, if_neg (fun z => bI_n0.mpr z c_32)]) (fun kd hk => by rw [ekr, nw_k hk]; exact ek kd hk) (fun u => by rw [ekr, nw_at, if_neg (by omega)]; exact e20 u) _ (by rw [r_wq_put, r_wq_at, es])
        ·
          refine ca_aload_nr h dX12_consider_35 rfl ?_
          refine ca_iload_n h dX12_consider_36 rfl ?_
          refine ca_aload_nr h dX12_consider_37 rfl ?_
          refine gs_X12_25 h hs ⟨rfl, rfl⟩ dX12_consider_38 ?_
          refine ca_iload_n h dX12_consider_41 rfl ?_
          refine ca_iald h rfl (hs.1 _ _ _ ⟨rfl, rfl⟩) (vp_in_nI (by omega) (by decide)) dX12_consider_42 ?_
          refine ca_top (show _ = nI c by rw [r_wq_28, nI_clamp (by omega), g1, gc]) ?_
          refine ca_vXv h hG ml_X12_220 (c_X12_handOver hs (n := nj) (by rw [r_wq_at]; exact hNj) (by rw [emm]; exact hm) (by rw [ek 3 (by decide)]; exact ht) (s := s) (t := c) (by rw [ecc]; exact hsc) (by rw [ek 3 (by decide)]; exact h5) (by rw [ecc]; exact hc) (by rw [e20]; exact hrel)) (ci := 12) rfl rfl rfl (hs.1 _ _ _ ⟨rfl, rfl⟩) rfl rfl rfl rfl ⟨Nat.le_refl _, Nat.le_refl _⟩ rfl dX12_consider_43 ?_
          intro μ9 hμ9
          obtain ⟨w2, rfl, hNw⟩ := hμ9
          refine ca_vreturn h hR dX12_consider_46 ?_
          refine ⟨rfl, rfl, a, b, nI t, w2, by rw [r_wr_wq], ?_⟩
          rw [k_ch_1 hq1 e17 (by omega), heq, k_c1_s (idx := j) (by omega) hcar, if_pos (bI_n0.mp c_32)]
          rw [if_pos rfl]; exact hNw
  refine ca_pick [2, 3, 1, 0] rfl ?_
  exact loop_14 _ 0 (Nat.zero_add _) _ rfl n _ hN rfl (fun _ _ => rfl) (fun _ => rfl) _ rfl
