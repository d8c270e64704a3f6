/-! THE REFERENCE: the queue served -/
def r_cn (p : Nat → Bool) : Nat → Nat
  | 0 => 0
  | N + 1 => r_cn p N + if p N = true then 1 else 0
theorem r_cn_le (p : Nat → Bool) : ∀ N, r_cn p N ≤ N
  | 0 => Nat.le_refl 0
  | N + 1 => by have := r_cn_le p N; unfold r_cn; split <;> omega
theorem r_cn_kf (p : Nat → Prop) [DecidablePred p] : ∀ N, kf (fun i (r : Int32) => if p i then r + 1 else r) N 0 = nI (r_cn (fun i => decide (p i)) N)
  | 0 => rfl
  | N + 1 => by
    have e : r_cn (fun i => decide (p i)) (N + 1) = r_cn (fun i => decide (p i)) N + if decide (p N) = true then 1 else 0 := rfl
    rw [kf_s, r_cn_kf p N, e]
    by_cases h : p N
    · rw [if_pos h, if_pos (decide_eq_true h), nI_1]
    · rw [if_neg h, if_neg (by rw [decide_eq_false h]; decide)]; rfl
theorem r_cn_pos (p : Nat → Bool) : ∀ N, 0 < r_cn p N ↔ ∃ i, i < N ∧ p i = true
  | 0 => ⟨fun z => absurd z (Nat.lt_irrefl 0), fun ⟨i, h, _⟩ => absurd h (Nat.not_lt_zero _)⟩
  | N + 1 => by
    have ih := r_cn_pos p N
    unfold r_cn
    by_cases h : p N = true
    · rw [if_pos h]
      exact ⟨fun _ => ⟨N, Nat.lt_succ_self N, h⟩, fun _ => by omega⟩
    · rw [if_neg h, Nat.add_zero, ih]
      constructor
      · rintro ⟨i, hi, e⟩; exact ⟨i, by omega, e⟩
      · rintro ⟨i, hi, e⟩
        by_cases z : i = N
        · rw [z] at e; exact absurd e h
        · exact ⟨i, by omega, e⟩
theorem r_cn_congr {p q : Nat → Bool} : ∀ N, (∀ i, i < N → q i = p i) → r_cn q N = r_cn p N
  | 0, _ => rfl
  | N + 1, h => by unfold r_cn; rw [r_cn_congr N (fun i hi => h i (by omega)), h N (by omega)]
theorem r_cn_rm {p q : Nat → Bool} {m : Nat} (hp : p m = true) (hq : q m = false) (h : ∀ i, i ≠ m → q i = p i) : ∀ N, m < N → r_cn q N + 1 = r_cn p N
  | 0, hm => absurd hm (Nat.not_lt_zero _)
  | N + 1, hm => by
    unfold r_cn
    by_cases e : m = N
    · subst e
      rw [r_cn_congr m (fun i hi => h i (by omega)), hp, hq]; rfl
    · have := r_cn_rm hp hq h N (by omega)
      rw [h N (fun z => e z.symm)]
      omega
theorem k_cb_tr {n : ch_N} {a b c : Nat} (h1 : k_cb n a b = true) (h2 : k_cb n b c = true) : k_cb n a c = true := by
  unfold k_cb at *
  by_cases e1 : n 3 a 4 = n 3 b 4
  · rw [if_pos e1] at h1
    by_cases e2 : n 3 b 4 = n 3 c 4
    · rw [if_pos e2] at h2; rw [if_pos (e1.trans e2)]
      by_cases t1 : n 3 a 9 = n 3 b 9
      · rw [if_pos t1] at h1
        by_cases t2 : n 3 b 9 = n 3 c 9
        · rw [if_pos t2] at h2; rw [if_pos (t1.trans t2)]; exact decide_eq_true (Int32.lt_trans (of_decide_eq_true h1) (of_decide_eq_true h2))
        · rw [if_neg t2] at h2; rw [if_neg (by rw [t1]; exact t2), t1]; exact h2
      · rw [if_neg t1] at h1
        by_cases t2 : n 3 b 9 = n 3 c 9
        · rw [if_neg (by rw [← t2]; exact t1), ← t2]; exact h1
        · rw [if_neg t2] at h2
          have h3 := Int32.lt_trans (of_decide_eq_true h1) (of_decide_eq_true h2)
          rw [if_neg (fun z => by rw [z] at h3; exact Int32.lt_irrefl h3)]; exact decide_eq_true h3
    · rw [if_neg e2] at h2; rw [if_neg (by rw [e1]; exact e2), e1]; exact h2
  · rw [if_neg e1] at h1
    by_cases e2 : n 3 b 4 = n 3 c 4
    · rw [if_neg (by rw [← e2]; exact e1)]; exact h1
    · rw [if_neg e2] at h2
      have h3 := of_decide_eq_true h1
      have h4 := of_decide_eq_true h2
      exact absurd (h3.trans h4.symm) e1
theorem k_cb_min (n : ch_N) (P : Nat → Prop) : ∀ N, (∃ i, i < N ∧ P i) → ∃ i, i < N ∧ P i ∧ ∀ j, j < N → P j → ¬ k_cb n j i = true
  | 0, ⟨i, h, _⟩ => absurd h (Nat.not_lt_zero _)
  | N + 1, ⟨i, hi, hP⟩ => by
    by_cases hex : ∃ i, i < N ∧ P i
    · obtain ⟨m, hm, hPm, hmin⟩ := k_cb_min n P N hex
      by_cases hN : P N ∧ k_cb n N m = true
      · refine ⟨N, Nat.lt_succ_self N, hN.1, fun j hj hPj z => ?_⟩
        by_cases e : j = N
        · rw [e, k_cb_self] at z; exact absurd z (by decide)
        · exact hmin j (by omega) hPj (k_cb_tr z hN.2)
      · refine ⟨m, by omega, hPm, fun j hj hPj z => ?_⟩
        by_cases e : j = N
        · subst e; exact hN ⟨hPj, z⟩
        · exact hmin j (by omega) hPj z
    · have e : i = N := Classical.byContradiction fun z => hex ⟨i, by omega, hP⟩
      subst e
      refine ⟨i, Nat.lt_succ_self i, hP, fun j hj hPj z => ?_⟩
      by_cases e : j = i
      · rw [e, k_cb_self] at z; exact absurd z (by decide)
      · exact hex ⟨j, by omega, hPj⟩
def r_rc (n : ch_N) (c : Int32) : Nat := r_cn (fun i => decide (n 3 i 8 = c)) (k_mc n)
theorem k_rq_c (n : ch_N) (c : Int32) : k_rq n c = nI (r_rc n c) := r_cn_kf (fun i => n 3 i 8 = c) (k_mc n)
theorem r_q0 {n : ch_N} (hmc : k_mc n ≤ 12) (c : Int32) : (k_qm n c 0 = -1 ∧ r_rc n c = 0) ∨ ∃ m, m < k_mc n ∧ k_qm n c 0 = nI m ∧ n 3 m 8 = c ∧ 0 < r_rc n c := by
  have hrb : ∀ j, k_rb n j = nI (r_cn (fun i => decide (n 3 i 8 = n 3 j 8 ∧ k_cb n i j = true)) (k_mc n)) := fun j => r_cn_kf (fun i => n 3 i 8 = n 3 j 8 ∧ k_cb n i j = true) (k_mc n)
  rcases kq_spec (fun i => decide (n 3 i 8 = c ∧ k_rb n i = 0)) (k_mc n) (k_mc n) (Nat.le_refl _) with ⟨e, g⟩ | ⟨m, -, hm, hp, e, -⟩
  · refine Or.inl ⟨e, Classical.byContradiction fun hz => ?_⟩
    obtain ⟨i, hi, hic⟩ := (r_cn_pos (fun i => decide (n 3 i 8 = c)) (k_mc n)).mp (Nat.pos_of_ne_zero hz)
    obtain ⟨m, hm, hmc2, hmin⟩ := k_cb_min n (fun i => n 3 i 8 = c) (k_mc n) ⟨i, hi, of_decide_eq_true hic⟩
    refine g m (by omega) hm (decide_eq_true ⟨hmc2, ?_⟩)
    rw [hrb]
    rcases Nat.eq_zero_or_pos (r_cn (fun i => decide (n 3 i 8 = n 3 m 8 ∧ k_cb n i m = true)) (k_mc n)) with z | z
    · rw [z]; rfl
    · obtain ⟨j, hj, hjc⟩ := (r_cn_pos _ _).mp z
      have y := of_decide_eq_true hjc
      exact absurd y.2 (hmin j hj (y.1.trans hmc2))
  · have y := of_decide_eq_true hp
    exact Or.inr ⟨m, hm, e, y.1, (r_cn_pos _ _).mpr ⟨m, hm, decide_eq_true y.1⟩⟩
theorem k_cnt_c (n : ch_N) (a b : Nat) : k_cnt (k_cnt n a) b = k_cnt (k_cnt n b) a := by
  by_cases e : a = b
  · rw [e]
  · funext x y z
    unfold k_cnt
    simp only [nw_at]
    by_cases h1 : x = 7 ∧ y = 0 ∧ z = b
    · obtain ⟨rfl, rfl, rfl⟩ := h1
      simp [show ¬ z = a from fun q => e q.symm]
    · by_cases h2 : x = 7 ∧ y = 0 ∧ z = a
      · obtain ⟨rfl, rfl, rfl⟩ := h2; simp [e]
      · simp [h1, h2]
theorem k_cnt_na {n : ch_N} {kd i t : Nat} {f : Nat → Int32} (h : kd ≠ 7) : k_cnt (na n kd i f) t = na (k_cnt n t) kd i f := by
  funext a b c
  unfold k_cnt
  rw [na_k (show (7 : Nat) ≠ kd from fun z => h z.symm)]
  simp only [nw_at, na_at]
  by_cases h1 : a = 7 ∧ b = 0 ∧ c = t
  · rw [if_pos h1, if_neg (fun z => h (z.1.symm.trans h1.1)), if_pos h1]
  · rw [if_neg h1, if_neg h1]
theorem k_cnt_k (n : ch_N) (t : Nat) {kd : Nat} (h : kd ≠ 7) : (k_cnt n t) kd = n kd := nw_k h
theorem k_cnt_beg (n : ch_N) (i t : Nat) (c : Int32) : k_cnt (k_beg n i c) t = k_beg (k_cnt n t) i c := by
  unfold k_beg k_clr
  rw [k_cnt_na (by decide), k_cnt_na (by decide), k_cnt_nw (by decide), k_cnt_nw (by decide), k_cnt_nw (by decide), k_cnt_nw (by decide)]
theorem k_cnt_bar (n : ch_N) (i u : Nat) (x t : Int32) : k_cnt (k_bar n i x t) u = k_bar (k_cnt n u) i x t := by
  unfold k_bar
  split
  · rfl
  · split
    · exact k_cnt_nw (by decide)
    · rfl
theorem k_cnt_isb (n : ch_N) (i u : Nat) (x t : Int32) : k_isb (k_cnt n u) i x t = k_isb n i x t := by unfold k_isb; rw [k_cnt_k n u (by decide)]
theorem k_cnt_ho (n : ch_N) (i u : Nat) (t : Int32) : k_cnt (k_ho n i t) u = k_ho (k_cnt n u) i t := by
  unfold k_ho
  dsimp only
  rw [k_cnt_isb, k_cnt_k n u (show (0 : Nat) ≠ 7 by decide), k_cnt_k n u (show (3 : Nat) ≠ 7 by decide)]
  have e : (if k_isb n i t (n 0 0 3) = true then k_cnt (k_cnt n u) 1 else k_cnt n u) = k_cnt (if k_isb n i t (n 0 0 3) = true then k_cnt n 1 else n) u := by
    split
    · exact k_cnt_c n u 1
    · rfl
  rw [e]
  generalize (if k_isb n i t (n 0 0 3) = true then k_cnt n 1 else n) = n1 at *
  refine (k_cnt_c _ 0 u).trans (congrArg (fun z => k_cnt z 0) ?_)
  rw [k_cnt_nw (by decide), k_cnt_nw (by decide), k_cnt_nw (by decide), k_cnt_nw (by decide), k_cnt_bar, k_cnt_k n1 u (show (0 : Nat) ≠ 7 by decide)]
  congr 1
  rw [nw_k (by decide), nw_k (by decide), nw_k (by decide), nw_k (by decide), nw_k (by decide), nw_k (by decide), ← k_cnt_bar, k_cnt_k _ u (show (2 : Nat) ≠ 7 by decide)]
theorem k_sv_eq (n : ch_N) (i : Nat) (c : Int32) : k_sv n i c = if n 3 i 4 = 1 then k_ho (k_cnt n 6) i c else k_beg (k_cnt n 6) i c := by
  unfold k_sv
  split
  · exact k_cnt_ho n i 6 c
  · exact k_cnt_beg n i 6 c
theorem k_bar_3 (n : ch_N) (i : Nat) (x t : Int32) : (k_bar n i x t) 3 = n 3 := by
  unfold k_bar
  split
  · rfl
  · split
    · exact nw_k (by decide)
    · rfl
theorem k_ho_38 (n : ch_N) (i j : Nat) (t : Int32) : (k_ho n i t) 3 j 8 = if j = i then -1 else n 3 j 8 := by
  unfold k_ho
  try dsimp only
  rw [k_cnt_k _ 0 (by decide), nw_k (by decide), nw_at]
  by_cases e : j = i
  · rw [if_pos ⟨rfl, e, rfl⟩, if_pos e]
  · rw [if_neg (fun z => e z.2.1), if_neg e, nw_at, if_neg (fun z => e z.2.1), nw_at, if_neg (fun z => e z.2.1), k_bar_3]
    split
    · rw [k_cnt_k _ 1 (by decide)]
    · rfl
theorem k_beg_38 (n : ch_N) (i j : Nat) (t : Int32) : (k_beg n i t) 3 j 8 = if j = i then -1 else n 3 j 8 := by
  unfold k_beg k_clr
  rw [na_k (by decide), na_k (by decide), nw_at]
  by_cases e : j = i
  · rw [if_pos ⟨rfl, e, rfl⟩, if_pos e]
  · rw [if_neg (fun z => e z.2.1), if_neg e, nw_at, if_neg (fun z => e z.2.1), nw_at, if_neg (fun z => e z.2.1), nw_at, if_neg (fun z => e z.2.1)]
theorem k_sv_38 (n : ch_N) (i j : Nat) (c : Int32) : (k_sv n i c) 3 j 8 = if j = i then -1 else n 3 j 8 := by
  rw [k_sv_eq]
  split
  · rw [k_ho_38, k_cnt_k _ 6 (by decide)]
  · rw [k_beg_38, k_cnt_k _ 6 (by decide)]
theorem r_rc_sv {n : ch_N} {m c : Nat} (hm : m < k_mc n) (hc : c < 8) (h8 : n 3 m 8 = nI c) : r_rc (k_sv n m (nI c)) (nI c) + 1 = r_rc n (nI c) := by
  unfold r_rc
  rw [show k_mc (k_sv n m (nI c)) = k_mc n by unfold k_mc; rw [k_sv_0]]
  refine r_cn_rm (m := m) (decide_eq_true h8) (decide_eq_false ?_) (fun i hi => ?_) _ hm
  · rw [k_sv_38, if_pos rfl]
    exact fun z => nI_nm1 (a := c) (by omega) z.symm
  · rw [k_sv_38, if_neg hi]
theorem k_svL_s {n : ch_N} {c m j : Nat} (hf : k_free n (nI c) = true) (hq : k_qm n (nI c) 0 = nI m) (hm : m < 12) : k_svL (nI c) (j + 1) n = k_svL (nI c) j (k_sv n m (nI c)) := by
  show (if k_free n (nI c) = true then (if k_qm n (nI c) 0 = -1 then n else k_svL (nI c) j (k_sv n (k_ix 12 12 (k_qm n (nI c) 0)) (nI c))) else n) = _
  rw [if_pos hf, hq, if_neg (nI_nm1 (by omega)), k_mob hm]
set_option maxHeartbeats 100000 in
theorem c_X12_serve {l : Launch} {E : ch_E} {S : ch_S} {μ : ch_M} (hs : ch_Std E S) {n : ch_N} (hN : r_N n (μ 16 23 0)) {c : Nat} (hc : c < k_cc n) : ch_C E l yX12_serve cX12_serve 3 none 5 0 0 S μ [.ref (S.1 16 22 0), .int (nI c)] (r_X (k_svL (nI c) 12 n) S μ) := by
  refine ch_enter rfl rfl ?_
  intro X hl0 h hG hR hnm
  have h : ch_H X E RX12 cX12_serve 3 := h
  have hc8 := r_c8 hN hc
  show ch_W X E 3 S μ 0 0 0 [(0, .ref (S.1 16 22 0)), (1, .int (nI c))] []
  have loop_0 : ∀ (jj j : Nat), j + jj = 12 → ∀ (n1 : ch_N) (w : Nat → Int32) (hN1 : r_N n1 w) (hr : r_rc n1 (nI c) ≤ jj) (heq : k_svL (nI c) 12 n = k_svL (nI c) jj n1) (ecc : k_cc n1 = k_cc n) (mm : ch_M) (em : mm = r_wr μ w), ch_W X E 3 S mm 0 0 0 [(0, .ref (S.1 16 22 0)), (1, .int (nI c))] [] := by
    intro jj
    induction jj with
    | zero =>
      intro j hn n1 w hN1 hr heq ecc mm em
      have hn : j = 12 := by omega
      subst em
      refine ca_aload_nr h dX12_serve_0 rfl ?_
      refine ca_iload_n h dX12_serve_1 rfl ?_
      refine ca_vi h hG ml_X12_167 (c_X12_hasFreeChannel hs (n := n1) (by rw [r_wr_at]; exact hN1) (by rw [ecc]; exact hc)) (ci := 12) rfl rfl rfl (hs.1 _ _ _ ⟨rfl, rfl⟩) rfl rfl rfl rfl ⟨Nat.le_refl _, Nat.le_refl _⟩ rfl dX12_serve_2 ?_
      refine ca_if_eq (tgt := 57) h dX12_serve_5 (by decide) (fun c_5 => ?_) (fun c_5 => ?_)
      ·
        refine ca_vreturn h hR dX12_serve_57 ?_
        exact ⟨rfl, rfl, w, rfl, by rw [heq]; exact hN1⟩
      ·
        refine ca_aload_nr h dX12_serve_8 rfl ?_
        refine ca_iload_n h dX12_serve_9 rfl ?_
        refine ca_vi h hG ml_X12_141 (c_X12_waitingAt hs (n := n1) (by rw [r_wr_at]; exact hN1)) (ci := 12) rfl rfl rfl (hs.1 _ _ _ ⟨rfl, rfl⟩) rfl rfl rfl rfl ⟨Nat.le_refl _, Nat.le_refl _⟩ rfl dX12_serve_10 ?_
        refine ca_if_le (tgt := 57) h dX12_serve_13 (by decide) (fun c_13 => ?_) (fun c_13 => ?_)
        ·
          refine ca_vreturn h hR dX12_serve_57 ?_
          exact ⟨rfl, rfl, w, rfl, by rw [heq]; exact hN1⟩
        · exact absurd c_13 (by rw [k_rq_c, Nat.le_zero.mp hr]; decide)
    | succ jj ih_0 =>
      intro j hn n1 w hN1 hr heq ecc mm em
      have hn1 : j < 12 := by omega
      subst em
      refine ca_aload_nr h dX12_serve_0 rfl ?_
      refine ca_iload_n h dX12_serve_1 rfl ?_
      refine ca_vi h hG ml_X12_167 (c_X12_hasFreeChannel hs (n := n1) (by rw [r_wr_at]; exact hN1) (by rw [ecc]; exact hc)) (ci := 12) rfl rfl rfl (hs.1 _ _ _ ⟨rfl, rfl⟩) rfl rfl rfl rfl ⟨Nat.le_refl _, Nat.le_refl _⟩ rfl dX12_serve_2 ?_
      refine ca_if_eq (tgt := 57) h dX12_serve_5 (by decide) (fun c_5 => ?_) (fun c_5 => ?_)
      ·
        refine ca_vreturn h hR dX12_serve_57 ?_
        have e9 : k_svL (nI c) (jj + 1) n1 = n1 := by
          show (if k_free n1 (nI c) = true then (if k_qm n1 (nI c) 0 = -1 then n1 else k_svL (nI c) jj (k_sv n1 (k_ix 12 12 (k_qm n1 (nI c) 0)) (nI c))) else n1) = n1
          rw [if_neg (fun z => bI_n0.mpr z c_5)]
        exact ⟨rfl, rfl, w, rfl, by rw [heq, e9]; exact hN1⟩
      ·
        refine ca_aload_nr h dX12_serve_8 rfl ?_
        refine ca_iload_n h dX12_serve_9 rfl ?_
        refine ca_vi h hG ml_X12_141 (c_X12_waitingAt hs (n := n1) (by rw [r_wr_at]; exact hN1)) (ci := 12) rfl rfl rfl (hs.1 _ _ _ ⟨rfl, rfl⟩) rfl rfl rfl rfl ⟨Nat.le_refl _, Nat.le_refl _⟩ rfl dX12_serve_10 ?_
        refine ca_if_le (tgt := 57) h dX12_serve_13 (by decide) (fun c_13 => ?_) (fun c_13 => ?_)
        ·
          refine ca_vreturn h hR dX12_serve_57 ?_
          have e9 : k_svL (nI c) (jj + 1) n1 = n1 := by
            show (if k_free n1 (nI c) = true then (if k_qm n1 (nI c) 0 = -1 then n1 else k_svL (nI c) jj (k_sv n1 (k_ix 12 12 (k_qm n1 (nI c) 0)) (nI c))) else n1) = n1
            rcases r_q0 hN1.2.2.2.2.2.1 (nI c) with ⟨z, -⟩ | ⟨m, -, -, -, z⟩
            · rw [if_pos z]; split <;> rfl
            · exact absurd (by rw [k_rq_c]; exact nI_lt (a := 0) z (by have := r_cn_le (fun i => decide (n1 3 i 8 = nI c)) (k_mc n1); have := hN1.2.2.2.2.2.1; unfold r_rc at *; omega)) c_13
          exact ⟨rfl, rfl, w, rfl, by rw [heq, e9]; exact hN1⟩
        ·
          refine ca_aload_nr h dX12_serve_16 rfl ?_
          refine ca_iload_n h dX12_serve_17 rfl ?_
          refine ca_iconst h dX12_serve_18 ik_0 ?_
          refine ca_vi h hG ml_X12_151 (c_X12_requestAt hs (n := n1) (by rw [r_wr_at]; exact hN1) hc8) (ci := 12) rfl rfl rfl (hs.1 _ _ _ ⟨rfl, rfl⟩) rfl rfl rfl rfl ⟨Nat.le_refl _, Nat.le_refl _⟩ rfl dX12_serve_19 ?_
          rcases r_q0 hN1.2.2.2.2.2.1 (nI c) with ⟨-, z⟩ | ⟨m, hm, eq, e8, -⟩
          · exact absurd (show (0 : Int32) < k_rq n1 (nI c) from Classical.byContradiction fun y => by first | exact c_13 y | exact y c_13) (by rw [k_rq_c, z]; decide)
          rw [eq]
          refine ca_istore_n h dX12_serve_22 rfl ?_
          have hr0 : 0 < r_rc n1 (nI c) := by have c9 := c_13; rw [k_rq_c] at c9; exact Classical.byContradiction fun z => by rw [show r_rc n1 (nI c) = 0 by omega] at c9; exact absurd c9 (by decide)
          refine ca_aload_nr h dX12_serve_23 rfl ?_
          refine ca_bipush h dX12_serve_24 bk_6 ?_
          refine ca_vv h hG ml_X12_183 (c_X12_count hs (t := 6) (by decide)) (ci := 12) rfl rfl rfl (hs.1 _ _ _ ⟨rfl, rfl⟩) rfl rfl rfl rfl ⟨Nat.le_refl _, Nat.le_refl _⟩ rfl dX12_serve_26 ?_
          refine ca_mem (μ'' := r_wr μ (up w (10 + 6) (w (10 + 6) + 1))) (by simp only [r_wr_put, r_wr_at, r_wr_wr]) ?_
          have hN2 : r_N (k_cnt n1 6) (up w (10 + 6) (w (10 + 6) + 1)) := r_N_tot hN1 (by decide)
          have em2 : k_mc (k_cnt n1 6) = k_mc n1 := by unfold k_mc; rw [k_cnt_0]
          have hMm := hN1.2.2.2.2.1 m hm
          have hrq : ¬ n1 3 m 8 = -1 := by rw [e8]; exact nI_nm1 (by omega)
          have hm12 := r_m12 hN1 hm
          refine ca_aload_nr h dX12_serve_29 rfl ?_
          refine ca_iload_n h dX12_serve_30 rfl ?_
          refine ca_bipush h dX12_serve_31 bk_9 ?_
          refine ca_vi h hG ml_X12_77 (c_X12_of hs hm12 (by decide)) (ci := 12) rfl rfl rfl (hs.1 _ _ _ ⟨rfl, rfl⟩) rfl rfl rfl rfl ⟨Nat.le_refl _, Nat.le_refl _⟩ rfl dX12_serve_33 ?_
          refine ca_top (show _ = (if n1 3 m 4 = 1 then 0 else 1) by rw [r_wr_at, up_n (by omega)]; exact (hMm.2.2.2.1 hrq).2) ?_
          refine ca_if_ne (tgt := 48) h dX12_serve_36 (by decide) (fun c_36 => ?_) (fun c_36 => ?_)
          ·
            have ht : ¬ n1 3 m 4 = 1 := fun z => by rw [if_pos z] at c_36; exact c_36 rfl
            refine ca_aload_nr h dX12_serve_48 rfl ?_
            refine ca_iload_n h dX12_serve_49 rfl ?_
            refine ca_iload_n h dX12_serve_50 rfl ?_
            refine ca_vv h hG ml_X12_176 (c_X12_begin hs hm12) (ci := 12) rfl rfl rfl (hs.1 _ _ _ ⟨rfl, rfl⟩) rfl rfl rfl rfl ⟨Nat.le_refl _, Nat.le_refl _⟩ rfl dX12_serve_51 ?_
            refine ca_goto (tgt := 0) h dX12_serve_54 (by decide) ?_
            refine ca_pick [1, 2] rfl ?_
            have e9 : k_sv n1 m (nI c) = k_beg (k_cnt n1 6) m (nI c) := by rw [k_sv_eq, if_neg ht]
            have e0 : (k_sv n1 m (nI c)) 0 = n1 0 := k_sv_0 n1 m (nI c)
            have er := r_rc_sv hm hc8 e8
            refine ih_0 (j + 1) (by omega) (k_sv n1 m (nI c)) (r_beg (up w (10 + 6) (w (10 + 6) + 1)) m (nI c)) (by rw [e9]; exact r_N_beg hN2 (by rw [em2]; exact hm) (by unfold k_cc; rw [k_cnt_0]; exact (show c < k_cc n1 by rw [ecc]; exact hc)) (by rw [k_cnt_k n1 6 (by decide)]; exact hMm.2.2.2.2.2.2.2.2.2.2.1 (fun z => hrq (hMm.2.2.2.2.2.2.2.1 z)))) (by omega) (by rw [heq, k_svL_s (bI_n0.mp c_5) eq (by have := hN1.2.2.2.2.2.1; omega)]) (by unfold k_cc; rw [e0]; exact ecc) _ (by simp only [r_wr_put, r_wr_at, r_wr_wr])
          ·
            have ht : n1 3 m 4 = 1 := Classical.byContradiction fun z => by rw [if_neg z] at c_36; exact absurd c_36 (by decide)
            obtain ⟨s, hsc, h5⟩ := r_sv hN1 hm ht
            have hs8 := r_c8 hN1 hsc
            have hrel : ¬ n1 2 (8 * s + c) 0 = 0 := by have y := hMm.2.2.2.2.2.2.2.2.2.2.2.1 ht c hc8 e8; rw [h5, r_rx hs8 hc8] at y; exact y
            refine ca_aload_nr h dX12_serve_39 rfl ?_
            refine ca_iload_n h dX12_serve_40 rfl ?_
            refine ca_iload_n h dX12_serve_41 rfl ?_
            refine ca_vXv h hG ml_X12_220 (c_X12_handOver hs (n := k_cnt n1 6) (by rw [r_wr_at]; exact hN2) (by rw [em2]; exact hm) (by rw [k_cnt_k n1 6 (by decide)]; exact ht) (s := s) (t := c) (by unfold k_cc; rw [k_cnt_0]; exact hsc) (by rw [k_cnt_k n1 6 (by decide)]; exact h5) (by unfold k_cc; rw [k_cnt_0]; exact (show c < k_cc n1 by rw [ecc]; exact hc)) (by rw [k_cnt_k n1 6 (by decide)]; exact hrel)) (ci := 12) rfl rfl rfl (hs.1 _ _ _ ⟨rfl, rfl⟩) rfl rfl rfl rfl ⟨Nat.le_refl _, Nat.le_refl _⟩ rfl dX12_serve_42 ?_
            intro μ9 hμ9
            obtain ⟨w2, rfl, hNw⟩ := hμ9
            refine ca_goto (tgt := 54) h dX12_serve_45 (by decide) ?_
            refine ca_goto (tgt := 0) h dX12_serve_54 (by decide) ?_
            refine ca_pick [1, 2] rfl ?_
            have e9 : k_sv n1 m (nI c) = k_ho (k_cnt n1 6) m (nI c) := by rw [k_sv_eq, if_pos ht]
            have e0 : (k_sv n1 m (nI c)) 0 = n1 0 := k_sv_0 n1 m (nI c)
            have er := r_rc_sv hm hc8 e8
            refine ih_0 (j + 1) (by omega) (k_sv n1 m (nI c)) w2 (by rw [e9]; exact hNw) (by omega) (by rw [heq, k_svL_s (bI_n0.mp c_5) eq (by have := hN1.2.2.2.2.2.1; omega)]) (by unfold k_cc; rw [e0]; exact ecc) _ (by rw [r_wr_wr])
  refine ca_pick [0, 1] rfl ?_
  exact loop_0 12 0 (Nat.zero_add _) n _ hN (by have := r_cn_le (fun i => decide (n 3 i 8 = nI c)) (k_mc n); have := hN.2.2.2.2.2.1; unfold r_rc; omega) rfl rfl _ (r_wr_id μ).symm
