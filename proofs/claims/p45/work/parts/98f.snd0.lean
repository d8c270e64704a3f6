/-! THE LAW: what isSound stands on -/
theorem s_rb {n : ch_N} {w : Nat → Int32} (hr : r_N n w) (hA : o_age n) {c i : Nat} (hc : c < 2 ^ 31) (hi : i < k_mc n) (h8 : n 3 i 8 = nI c) : k_rb n i = nI (o_cn n c (o_K n i) i) := by
  have ne : ∀ {j}, n 3 j 8 = nI c → ¬ n 3 j 8 = -1 := fun e z => nI_nm1 hc (e.symm.trans z)
  unfold k_rb
  rw [kf_cnt_I (p := fun j => n 3 j 8 = n 3 i 8 ∧ k_cb n j i = true)]
  congr 1
  refine kf_cnt_eq (p := fun j => n 3 j 8 = n 3 i 8 ∧ k_cb n j i = true) (q := fun j => n 3 j 8 = nI c ∧ (o_K n j < o_K n i ∨ o_K n j = o_K n i ∧ j < i)) _ (fun j hj => ?_)
  rw [h8]
  constructor
  · rintro ⟨a, b⟩; exact ⟨a, (o_cb hr hA hj hi (ne a) (ne h8)).mp b⟩
  · rintro ⟨a, b⟩; exact ⟨a, (o_cb hr hA hj hi (ne a) (ne h8)).mpr b⟩
theorem s_qk {n : ch_N} {c k : Nat} : ∀ T, k < o_cn n c T 0 → ∃ i, i < k_mc n ∧ n 3 i 8 = nI c ∧ o_cn n c (o_K n i) i = k
  | 0, h => by rw [o_cn_z] at h; exact absurd h (Nat.not_lt_zero _)
  | T + 1, h => by
    rw [o_cn_next] at h
    have step : ∀ m, m ≤ k_mc n → k < o_cn n c T m → ∃ i, i < k_mc n ∧ n 3 i 8 = nI c ∧ o_cn n c (o_K n i) i = k := by
      intro m
      induction m with
      | zero => exact fun _ z => s_qk T z
      | succ m ih =>
        intro hm z
        by_cases e : n 3 m 8 = nI c ∧ o_K n m = T
        · obtain ⟨e1, -⟩ := o_cn_yes (show m < k_mc n by omega) e.1 e.2
          by_cases g : k < o_cn n c T m
          · exact ih (by omega) g
          · exact ⟨m, by omega, e.1, by rw [e.2]; omega⟩
        · rw [o_cn_no e] at z
          exact ih (by omega) z
    exact step _ (Nat.le_refl _) h
theorem s_q {n : ch_N} {w : Nat → Int32} (hr : r_N n w) (hA : o_age n) {c k : Nat} (hc : c < 2 ^ 31) (hk : k < o_W n c) : ∃ m, m < k_mc n ∧ k_qm n (nI c) (nI k) = nI m ∧ n 3 m 8 = nI c ∧ o_cn n c (o_K n m) m = k := by
  obtain ⟨i, hi, h8, e⟩ := s_qk (n := n) (c := c) (k := k) 82 (by rw [o_cn_all (by decide)]; exact hk)
  have hm12 := hr.2.2.2.2.2.1
  have hW := o_W_le n c
  unfold k_qm
  rcases kq_spec (fun i => decide (n 3 i 8 = nI c ∧ k_rb n i = nI k)) (k_mc n) (k_mc n) (Nat.le_refl _) with ⟨-, g⟩ | ⟨m, -, hm, hp, em, -⟩
  · exact absurd (decide_eq_true (p := n 3 i 8 = nI c ∧ k_rb n i = nI k) ⟨h8, by rw [s_rb hr hA hc hi h8, e]⟩) (g i (by omega) hi)
  · have y := of_decide_eq_true hp
    refine ⟨m, hm, em, y.1, ?_⟩
    have e2 := y.2
    rw [s_rb hr hA hc hm y.1] at e2
    have l := (o_cn_yes hm y.1 rfl).2
    exact (nI_eq (by omega) (by omega)).mp e2
theorem s_qE {n : ch_N} {w : Nat → Int32} (hr : r_N n w) (hA : o_age n) {c : Nat} (hc : c < 2 ^ 31) : k_qm n (nI c) (nI (o_W n c)) = -1 := by
  have hm12 := hr.2.2.2.2.2.1
  have hW := o_W_le n c
  unfold k_qm
  rcases kq_spec (fun i => decide (n 3 i 8 = nI c ∧ k_rb n i = nI (o_W n c))) (k_mc n) (k_mc n) (Nat.le_refl _) with ⟨e, -⟩ | ⟨m, -, hm, hp, em, -⟩
  · exact e
  · have y := of_decide_eq_true hp
    have e2 := y.2
    rw [s_rb hr hA hc hm y.1] at e2
    have l := (o_cn_yes hm y.1 rfl).2
    have := (nI_eq (by omega) (by omega)).mp e2
    omega
theorem s_qo {n : ch_N} {c p m : Nat} (hlt : o_cn n c (o_K n p) p < o_cn n c (o_K n m) m) (hp : n 3 p 4 = 2) : ¬ n 3 m 4 = 1 := fun hm => by
  have kp : 41 ≤ o_K n p := by unfold o_K; rw [if_neg (by rw [hp]; decide)]; omega
  have km : o_K n m < 41 := by unfold o_K; rw [if_pos hm]; omega
  have := kf_cnt_mono (p := fun i => n 3 i 8 = nI c ∧ (o_K n i < o_K n m ∨ o_K n i = o_K n m ∧ i < m)) (q := fun i => n 3 i 8 = nI c ∧ (o_K n i < o_K n p ∨ o_K n i = o_K n p ∧ i < p)) (k_mc n) (fun i _ z => ⟨z.1, by omega⟩)
  have h2 : o_cn n c (o_K n m) m ≤ o_cn n c (o_K n p) p := this
  omega
/-- talking mobiles of a cell -/
theorem s_busy {n : ch_N} {w : Nat → Int32} (hr : r_N n w) {c : Nat} (hc : c < 2 ^ 31) : kf (fun i (r : Int32) => if n 3 i 5 = nI c then r + 1 else r) (k_mc n) 0 = k_tk n (nI c) := by
  unfold k_tk
  refine kf_cg _ _ (fun i y hi => ?_)
  by_cases h5 : n 3 i 5 = nI c
  · have h4 : n 3 i 4 = 1 := Classical.byContradiction fun z => by
      have := ((hr.2.2.2.2.1 i hi).2.2.2.2.2.2.1 z).1
      exact nI_nm1 hc (h5.symm.trans this)
    rw [if_pos h5, if_pos ⟨h4, h5⟩]
  · rw [if_neg h5, if_neg (fun z => h5 z.2)]
/-- requests of all cells -/
def s_R (n : ch_N) (C : Nat) : Nat := kf (fun c v => v + o_W n c) C 0
theorem s_R_I (n : ch_N) : ∀ C, kf (fun c (v : Int32) => v + k_rq n (nI c)) C 0 = nI (s_R n C)
  | 0 => rfl
  | C + 1 => by
    show kf (fun c (v : Int32) => v + k_rq n (nI c)) C 0 + k_rq n (nI C) = nI (s_R n C + o_W n C)
    rw [s_R_I n C, o_W_rq, nI_add]
theorem kf_cnt_or {p q r : Nat → Prop} [DecidablePred p] [DecidablePred q] [DecidablePred r] : ∀ N, (∀ i, i < N → (r i ↔ p i ∨ q i) ∧ ¬ (p i ∧ q i)) → kf (fun i x => if r i then x + 1 else x) N (0 : Nat) = kf (fun i x => if p i then x + 1 else x) N 0 + kf (fun i x => if q i then x + 1 else x) N 0
  | 0, _ => rfl
  | N + 1, h => by
    rw [kf_s, kf_s, kf_s, kf_cnt_or N (fun i hi => h i (by omega))]
    obtain ⟨h1, h2⟩ := h N (by omega)
    by_cases hp : p N
    · have hq : ¬ q N := fun z => h2 ⟨hp, z⟩
      rw [if_pos (h1.mpr (Or.inl hp)), if_pos hp, if_neg hq]; omega
    · by_cases hq : q N
      · rw [if_pos (h1.mpr (Or.inr hq)), if_neg hp, if_pos hq]; omega
      · rw [if_neg (fun z => (h1.mp z).elim hp hq), if_neg hp, if_neg hq]
theorem s_in {x : Int32} {C : Nat} (hC : C < 2 ^ 31) : (¬ x < 0 ∧ x < nI C) ↔ ∃ c, c < C ∧ x = nI c := by
  constructor
  · rintro ⟨a, b⟩
    obtain ⟨c, hc, rfl⟩ := nI_of a
    exact ⟨c, (nI_ltI hc hC).mp b, rfl⟩
  · rintro ⟨c, hc, rfl⟩
    exact ⟨nI_pos (by omega), nI_lt hc hC⟩
theorem s_R_c (n : ch_N) : ∀ C, C < 2 ^ 31 → s_R n C = kf (fun i x => if (¬ n 3 i 8 < 0 ∧ n 3 i 8 < nI C) then x + 1 else x) (k_mc n) (0 : Nat)
  | 0, h0 => (kf_cnt_F (p := fun i => ¬ n 3 i 8 < 0 ∧ n 3 i 8 < nI 0) (k_mc n) (fun i _ z => by obtain ⟨c, hc, -⟩ := (s_in h0).mp z; exact Nat.not_lt_zero _ hc)).symm
  | C + 1, hC => by
    show s_R n C + o_W n C = _
    rw [s_R_c n C (by omega)]
    refine (kf_cnt_or (p := fun i => ¬ n 3 i 8 < 0 ∧ n 3 i 8 < nI C) (q := fun i => n 3 i 8 = nI C) (r := fun i => ¬ n 3 i 8 < 0 ∧ n 3 i 8 < nI (C + 1)) (k_mc n) (fun i _ => ?_)).symm
    simp only [s_in (show C < 2 ^ 31 by omega), s_in hC]
    refine ⟨⟨?_, ?_⟩, ?_⟩
    · rintro ⟨c, hc, e⟩
      by_cases g : c = C
      · subst g; exact Or.inr e
      · exact Or.inl ⟨c, by omega, e⟩
    · rintro (⟨c, hc, e⟩ | e)
      · exact ⟨c, by omega, e⟩
      · exact ⟨C, by omega, e⟩
    · rintro ⟨⟨c, hc, e⟩, e2⟩
      have := (nI_eq (by omega) (by omega)).mp (e.symm.trans e2)
      omega
def s_rm (n : ch_N) (m : Nat) (v : Int32) : Int32 := if n 3 m 8 < 0 then v else v + (-1)
theorem s_req {n : ch_N} {w : Nat → Int32} (hr : r_N n w) : kf (s_rm n) (k_mc n) (nI (s_R n (k_cc n))) = 0 := by
  have hc8 := hr.2.2.2.2.2.2.1
  have hm12 := hr.2.2.2.2.2.1
  have e1 : s_R n (k_cc n) = kf (fun i x => if ¬ n 3 i 8 < 0 then x + 1 else x) (k_mc n) (0 : Nat) := by
    rw [s_R_c n _ (by omega)]
    refine kf_cnt_eq (p := fun i => ¬ n 3 i 8 < 0 ∧ n 3 i 8 < nI (k_cc n)) (q := fun i => ¬ n 3 i 8 < 0) _ (fun i hi => ⟨fun z => z.1, fun z => ?_⟩)
    rw [s_in (by omega)]
    rcases (hr.2.2.2.2.1 i hi).2.2.2.2.2.2.2.2.2.1 with y | y
    · exact absurd (by rw [y]; decide) z
    · exact y
  have key : ∀ j, ∀ T, kf (fun i x => if ¬ n 3 i 8 < 0 then x + 1 else x) j (0 : Nat) ≤ T → T < 2 ^ 31 → kf (s_rm n) j (nI T) = nI (T - kf (fun i x => if ¬ n 3 i 8 < 0 then x + 1 else x) j (0 : Nat)) := by
    intro j
    induction j with
    | zero => exact fun T _ _ => rfl
    | succ j ih =>
      intro T hT hT2
      rw [kf_s, kf_s] at *
      by_cases g : n 3 j 8 < 0
      · rw [if_neg (fun z => z g)] at hT ⊢
        rw [ih T hT hT2]
        unfold s_rm; rw [if_pos g]
      · rw [if_pos g] at hT ⊢
        rw [ih T (by omega) hT2]
        unfold s_rm; rw [if_neg g]
        obtain ⟨q, hq⟩ : ∃ q, T - kf (fun i x => if ¬ n 3 i 8 < 0 then x + 1 else x) j (0 : Nat) = q + 1 := ⟨T - kf (fun i x => if ¬ n 3 i 8 < 0 then x + 1 else x) j (0 : Nat) - 1, by omega⟩
        rw [hq, show T - (kf (fun i x => if ¬ n 3 i 8 < 0 then x + 1 else x) j (0 : Nat) + 1) = q by omega, ← nI_pred q]
        rw [Int32.sub_eq_add_neg]
  have hl := kf_cnt_le (p := fun i => ¬ n 3 i 8 < 0) (k_mc n)
  rw [key (k_mc n) _ (by rw [e1]; exact Nat.le_refl _) (by rw [e1]; omega), e1, Nat.sub_self]; rfl
/-! candidates -/
theorem o_so_uq {g : Nat → Int32} {N t t' : Nat} {C C' : Nat → Nat} {q q' : ch_N} (h : o_so g N t C q) (h' : o_so g N t' C' q') : t = t' ∧ ∀ j, j < t → C j = C' j := by
  have bt : ∀ {a b}, o_bt g a b → o_bt g b a → False := fun {a b} x y => by
    rcases x with x | ⟨x1, x2⟩
    · rcases y with y | ⟨y1, y2⟩
      · exact Int32.lt_irrefl (Int32.lt_trans x y)
      · rw [y1] at x; exact Int32.lt_irrefl x
    · rcases y with y | ⟨y1, y2⟩
      · rw [x1] at y; exact Int32.lt_irrefl y
      · omega
  have key : ∀ k, k < t → k < t' → C k = C' k := by
    intro k
    induction k using Nat.strongRecOn with
    | ind k ih =>
      intro hk hk'
      obtain ⟨j', hj', e'⟩ := h'.2.2.2.2 (C k) (h.2.2.1 k hk).1 (h.2.2.1 k hk).2.2.2
      obtain ⟨j, hj, e⟩ := h.2.2.2.2 (C' k) (h'.2.2.1 k hk').1 (h'.2.2.1 k hk').2.2.2
      have g1 : ¬ j' < k := fun z => by
        have := ih j' z (by omega) hj'
        have := o_so_inj h (j := j') (k := k) (by omega) hk (this.trans e')
        omega
      have g2 : ¬ j < k := fun z => by
        have := ih j z hj (by omega)
        have := o_so_inj h' (j := j) (k := k) (by omega) hk' (this.symm.trans e)
        omega
      by_cases z : j' = k
      · rw [← e', z]
      · by_cases z2 : j = k
        · rw [← e, z2]
        · have b1 := h'.2.2.2.1 k j' (by omega) hj'
          have b2 := h.2.2.2.1 k j (by omega) hj
          rw [e'] at b1; rw [e] at b2
          exact (bt b1 b2).elim
  have et : t = t' := by
    rcases Nat.lt_trichotomy t t' with z | z | z
    · obtain ⟨j, hj, e⟩ := h.2.2.2.2 (C' t) (h'.2.2.1 t z).1 (h'.2.2.1 t z).2.2.2
      have := o_so_inj h' (j := j) (k := t) (by omega) z ((key j hj (by omega)).symm.trans e)
      omega
    · exact z
    · obtain ⟨j, hj, e⟩ := h'.2.2.2.2 (C t') (h.2.2.1 t' z).1 (h.2.2.1 t' z).2.2.2
      have := o_so_inj h (j := j) (k := t') (by omega) z ((key j (by omega) hj).trans e)
      omega
  subst et
  exact ⟨rfl, fun j hj => key j hj hj⟩
/-- the candidates of a mobile, whatever the ranking held before -/
def s_C (n : ch_N) (m t : Nat) (C : Nat → Nat) : Prop := t ≤ 8 ∧ (∀ q k, k ≤ 8 → k_car (k_rank n q m) (nI k) = if k < t then nI (C k) else -1) ∧ (∀ j, j < t → C j < k_cc n ∧ 0 < o_g n (k_em n m) m (C j)) ∧ (∀ j k, j < k → k < t → o_bt (o_g n (k_em n m) m) (C j) (C k)) ∧ (0 < t → n 3 m 4 = 1 ∧ ¬ k_avg n m (n 3 m 5) = -1)
theorem s_cand {n : ch_N} {w : Nat → Int32} (hr : r_N n w) {m : Nat} (hm : m < k_mc n) : ∃ t C, s_C n m t C := by
  have hc8 := hr.2.2.2.2.2.2.1
  by_cases ha : k_avg n m (n 3 m 5) = -1
  · refine ⟨0, fun _ => 0, Nat.zero_le _, fun q k hk => ?_, fun j hj => absurd hj (Nat.not_lt_zero _), fun j k _ hk => absurd hk (Nat.not_lt_zero _), fun z => absurd z (Nat.lt_irrefl _)⟩
    have e : (k_rank n q m) 17 0 0 = 0 := by unfold k_rank; rw [if_pos ha]; simp [nw_at]
    unfold k_car
    rw [if_neg (nI_pos (by omega)), e, if_neg (nI_pos (by omega)), if_neg (Nat.not_lt_zero _)]
  · obtain ⟨⟨t, C, h0⟩, -⟩ := o_rank (q := n) hc8 ha
    have ht : t ≤ 8 := by have := h0.1; omega
    refine ⟨t, C, ht, fun q k hk => ?_, fun j hj => ⟨(h0.2.2.1 j hj).1, (h0.2.2.1 j hj).2.2.2⟩, h0.2.2.2.1, fun _ => ⟨Classical.byContradiction fun z => ?_, ha⟩⟩
    · obtain ⟨⟨t', C', h'⟩, -⟩ := o_rank (q := q) hc8 ha
      obtain ⟨e1, e2⟩ := o_so_uq h0 h'
      subst e1
      unfold k_car
      rw [if_neg (nI_pos (by omega)), h'.2.1]
      by_cases g : k < t
      · rw [if_pos (nI_lt g (by omega)), if_pos (show nI k < 8 from nI_lt (b := 8) (by omega) (by decide)), nI_clamp (by omega), (h'.2.2.1 k g).2.1, if_pos g, e2 k g]
      · rw [if_neg (fun z => g ((nI_ltI (by omega) (by omega)).mp z)), if_neg g]
    · have h5 := ((hr.2.2.2.2.1 m hm).2.2.2.2.2.2.1 z).1
      exact ha (by rw [h5]; rfl)
