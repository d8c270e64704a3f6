/-! THE RANKING IS SORTED -/
def o_bt (g : Nat → Int32) (a b : Nat) : Prop := g b < g a ∨ (g a = g b ∧ a < b)
def o_so (g : Nat → Int32) (N t : Nat) (C : Nat → Nat) (q : ch_N) : Prop := t ≤ N ∧ q 17 0 0 = nI t ∧ (∀ j, j < t → C j < N ∧ q 18 0 j = nI (C j) ∧ q 19 0 j = g (C j) ∧ 0 < g (C j)) ∧ (∀ j k, j < k → k < t → o_bt g (C j) (C k)) ∧ ∀ c, c < N → 0 < g c → ∃ j, j < t ∧ C j = c
theorem o_sp {M : Nat → Int32} {m : Int32} : ∀ t, k_sp M m t ≤ t ∧ (∀ j, k_sp M m t ≤ j → j < t → M j < m) ∧ (0 < k_sp M m t → ¬ M (k_sp M m t - 1) < m)
  | 0 => ⟨Nat.le_refl _, fun j h1 h2 => by omega, fun z => absurd z (Nat.lt_irrefl _)⟩
  | a + 1 => by
    unfold k_sp
    obtain ⟨h1, h2, h3⟩ := o_sp (M := M) (m := m) a
    by_cases h : M a < m
    · rw [if_pos h]
      refine ⟨by omega, fun j g1 g2 => ?_, h3⟩
      by_cases e : j = a
      · subst e; exact h
      · exact h2 j g1 (by omega)
    · rw [if_neg h]
      exact ⟨Nat.le_refl _, fun j g1 g2 => by omega, fun _ => h⟩
theorem o_ins18 {q : ch_N} {c m : Int32} {t : Nat} (ht : t < 8) (h2 : q 17 0 0 = nI t) : (k_ins q c m) 17 0 0 = nI (t + 1) ∧ (k_ins q c m) 17 0 1 = q 17 0 1 ∧ (∀ j, (k_ins q c m) 18 0 j = if j = k_sp (q 19 0) m t then c else if k_sp (q 19 0) m t < j ∧ j ≤ t then q 18 0 (j - 1) else q 18 0 j) ∧ ∀ j, (k_ins q c m) 19 0 j = if j = k_sp (q 19 0) m t then m else if k_sp (q 19 0) m t < j ∧ j ≤ t then q 19 0 (j - 1) else q 19 0 j := by
  have ect : Int32.toNatClampNeg (q 17 0 0) = t := by rw [h2]; exact nI_clamp (by omega)
  have hlt : q 17 0 0 < 8 := by rw [h2]; exact nI_lt (b := 8) ht (by decide)
  have h0 := k_ins_in (c := c) (v := m) ht h2
  refine ⟨h0.1, h0.2.1, fun j => ?_, fun j => ?_⟩
  · unfold k_ins k_sh
    rw [if_pos hlt, ect]
    simp [nw_at, na_at]
  · unfold k_ins k_sh
    rw [if_pos hlt, ect]
    simp [nw_at, na_at]
theorem o_so_ins {g : Nat → Int32} {N t : Nat} {C : Nat → Nat} {q : ch_N} (hN : N < 8) (h : o_so g N t C q) (hg : 0 < g N) : ∃ C', o_so g (N + 1) (t + 1) C' (k_ins q (nI N) (g N)) := by
  obtain ⟨h1, h2, h3, h4, h5⟩ := h
  obtain ⟨p, hp⟩ : ∃ p, p = k_sp (q 19 0) (g N) t := ⟨_, rfl⟩
  obtain ⟨s1, s2, s3⟩ := o_sp (M := q 19 0) (m := g N) t
  rw [← hp] at s1 s2 s3
  obtain ⟨i1, -, i3, i4⟩ := o_ins18 (c := nI N) (m := g N) (show t < 8 by omega) h2
  rw [← hp] at i3 i4
  have s4 : ∀ j, j < p → ¬ g (C j) < g N := fun j hj => by
    have e1 := s3 (by omega)
    rw [(h3 (p - 1) (by omega)).2.2.1] at e1
    by_cases e : j = p - 1
    · rw [e]; exact e1
    · rcases h4 j (p - 1) (by omega) (by omega) with z | ⟨z, -⟩
      · exact fun y => e1 (Int32.lt_trans z y)
      · rw [z]; exact e1
  have s5 : ∀ j, p ≤ j → j < t → g (C j) < g N := fun j g1 g2 => by rw [← (h3 j g2).2.2.1]; exact s2 j g1 g2
  refine ⟨fun j => if j < p then C j else if j = p then N else C (j - 1), by omega, i1, fun j hj => ?_, fun j k hjk hk => ?_, fun c hc hgc => ?_⟩
  · rw [i3, i4]
    dsimp only
    by_cases e1 : j < p
    · simp only [if_pos e1, if_neg (show ¬ j = p by omega), if_neg (show ¬ (p < j ∧ j ≤ t) by omega)]
      obtain ⟨a, b, c, d⟩ := h3 j (by omega)
      exact ⟨by omega, b, c, d⟩
    · by_cases e2 : j = p
      · simp only [if_neg e1, if_pos e2]; exact ⟨by omega, trivial, trivial, hg⟩
      · simp only [if_neg e1, if_neg e2, if_pos (show p < j ∧ j ≤ t by omega)]
        obtain ⟨a, b, c, d⟩ := h3 (j - 1) (by omega)
        exact ⟨by omega, b, c, d⟩
  · dsimp only
    by_cases e1 : k < p
    · rw [if_pos (show j < p by omega), if_pos e1]; exact h4 j k hjk (by omega)
    · by_cases e2 : k = p
      · rw [if_pos (show j < p by omega), if_neg e1, if_pos e2]
        have hjN := (h3 j (by omega)).1
        by_cases z : g N < g (C j)
        · exact Or.inl z
        · exact Or.inr ⟨Int32.le_antisymm (Int32.not_lt.mp z) (Int32.not_lt.mp (s4 j (by omega))), hjN⟩
      · rw [if_neg e1, if_neg e2]
        by_cases f1 : j < p
        · rw [if_pos f1]; exact h4 j (k - 1) (by omega) (by omega)
        · by_cases f2 : j = p
          · rw [if_neg f1, if_pos f2]; exact Or.inl (s5 (k - 1) (by omega) (by omega))
          · rw [if_neg f1, if_neg f2]; exact h4 (j - 1) (k - 1) (by omega) (by omega)
  · by_cases e : c = N
    · exact ⟨p, by omega, by dsimp only; rw [if_neg (Nat.lt_irrefl _), if_pos rfl, e]⟩
    · obtain ⟨j, hj, hC⟩ := h5 c (by omega) hgc
      by_cases e1 : j < p
      · exact ⟨j, by omega, by dsimp only; rw [if_pos e1, hC]⟩
      · exact ⟨j + 1, by omega, by dsimp only; rw [if_neg (by omega), if_neg (by omega)]; exact hC⟩
theorem o_so_skip {g : Nat → Int32} {N t : Nat} {C : Nat → Nat} {q : ch_N} (h : o_so g N t C q) (hg : ¬ 0 < g N) : o_so g (N + 1) t C q := by
  obtain ⟨h1, h2, h3, h4, h5⟩ := h
  refine ⟨by omega, h2, fun j hj => ⟨by have := (h3 j hj).1; omega, (h3 j hj).2⟩, h4, fun c hc z => ?_⟩
  by_cases e : c = N
  · subst e; exact absurd z hg
  · exact h5 c (by omega) z
def o_g (n : ch_N) (em : Int32) (i : Nat) : Nat → Int32 := fun c => k_mg n em i (nI c)
theorem k_rkL_s (n : ch_N) (em : Int32) (i N : Nat) (q : ch_N) : k_rkL n em i (N + 1) q = if 0 < o_g n em i N then k_ins (k_rkL n em i N q) (nI N) (o_g n em i N) else k_rkL n em i N q := rfl
theorem o_so_L {n : ch_N} {em : Int32} {i : Nat} {q : ch_N} (h0 : q 17 0 0 = 0) : ∀ N, N ≤ 8 → ∃ t C, o_so (o_g n em i) N t C (k_rkL n em i N q)
  | 0, _ => ⟨0, fun _ => 0, Nat.le_refl _, h0, fun j hj => absurd hj (Nat.not_lt_zero _), fun j k _ hk => absurd hk (Nat.not_lt_zero _), fun c hc => absurd hc (Nat.not_lt_zero _)⟩
  | N + 1, hN => by
    obtain ⟨t, C, h⟩ := o_so_L (n := n) (em := em) (i := i) h0 N (by omega)
    rw [k_rkL_s]
    by_cases z : 0 < o_g n em i N
    · rw [if_pos z]
      obtain ⟨C', h'⟩ := o_so_ins (by omega) h z
      exact ⟨t + 1, C', h'⟩
    · rw [if_neg z]; exact ⟨t, C, o_so_skip h z⟩
theorem o_rkL_1 {n : ch_N} {em : Int32} {i : Nat} {q : ch_N} (h0 : q 17 0 0 = 0) : ∀ N, N ≤ 8 → k_rkL n em i N q 17 0 1 = q 17 0 1
  | 0, _ => rfl
  | N + 1, hN => by
    obtain ⟨t, C, h⟩ := o_so_L (n := n) (em := em) (i := i) h0 N (by omega)
    rw [k_rkL_s]
    split
    · rw [(o_ins18 (show t < 8 by have := h.1; omega) h.2.1).2.1]; exact o_rkL_1 h0 N (by omega)
    · exact o_rkL_1 h0 N (by omega)
theorem o_rank {n q : ch_N} {i : Nat} (h8 : k_cc n ≤ 8) (hne : ¬ k_avg n i (n 3 i 5) = -1) : (∃ t C, o_so (o_g n (k_em n i) i) (k_cc n) t C (k_rank n q i)) ∧ k_rank n q i 17 0 1 = k_em n i ∧ k_rank n q i = k_rkL n (k_em n i) i (k_cc n) (nw (nw q 17 0 0 0) 17 0 1 (k_em n i)) := by
  have e : k_rank n q i = k_rkL n (k_em n i) i (k_cc n) (nw (nw q 17 0 0 0) 17 0 1 (k_em n i)) := by unfold k_rank; rw [if_neg hne]
  have h0 : (nw (nw q 17 0 0 0) 17 0 1 (k_em n i)) 17 0 0 = 0 := by simp [nw_at]
  rw [e]
  exact ⟨o_so_L h0 _ h8, by rw [o_rkL_1 h0 _ h8]; simp [nw_at], rfl⟩
/-- the first of the greatest among the first N -/
def o_fx (M : Nat → Int32) (N b : Nat) : Prop := b < N ∧ ∀ i, i < N → ¬ M b < M i ∧ (i < b → M i < M b)
theorem o_fx_new {M : Nat → Int32} {N b : Nat} (h : o_fx M N b) (hl : M b < M N) : o_fx M (N + 1) N := by
  refine ⟨by omega, fun i hi => ?_⟩
  by_cases e : i = N
  · subst e; exact ⟨Int32.lt_irrefl, fun z => absurd z (Nat.lt_irrefl _)⟩
  · have h1 := (h.2 i (by omega)).1
    have h2 : M i < M N := Int32.lt_of_le_of_lt (Int32.not_lt.mp h1) hl
    exact ⟨fun z => absurd (Int32.lt_trans h2 z) Int32.lt_irrefl, fun _ => h2⟩
theorem o_fx_old {M : Nat → Int32} {N b : Nat} (h : o_fx M N b) (hl : ¬ M b < M N) : o_fx M (N + 1) b := by
  refine ⟨by have := h.1; omega, fun i hi => ?_⟩
  by_cases e : i = N
  · subst e; exact ⟨hl, fun z => by have := h.1; omega⟩
  · exact h.2 i (by omega)
theorem o_fx_1 {M : Nat → Int32} : o_fx M 1 0 := by
  refine ⟨by decide, fun i hi => ?_⟩
  have : i = 0 := by omega
  subst this
  exact ⟨Int32.lt_irrefl, fun z => absurd z (Nat.lt_irrefl _)⟩
/-- the margins that are left when k cells are taken -/
def o_mk (g : Nat → Int32) (C : Nat → Nat) (k : Nat) (M : Nat → Int32) (N : Nat) : Prop := ∀ c, c < N → ((∃ j, j < k ∧ C j = c) → M c = 0) ∧ (¬ (∃ j, j < k ∧ C j = c) → M c = if 0 < g c then g c else 0)
theorem o_so_inj {g : Nat → Int32} {N t : Nat} {C : Nat → Nat} {q : ch_N} (h : o_so g N t C q) {j k : Nat} (hj : j < t) (hk : k < t) (e : C j = C k) : j = k := by
  have key : ∀ a b, a < b → b < t → C a = C b → False := fun a b hab hb e => by
    rcases h.2.2.2.1 a b hab hb with z | z
    · rw [e] at z; exact Int32.lt_irrefl z
    · omega
  rcases Nat.lt_trichotomy j k with z | z | z
  · exact (key j k z hk e).elim
  · exact z
  · exact (key k j z hj e.symm).elim
theorem o_sel {g : Nat → Int32} {N t k b : Nat} {C : Nat → Nat} {q : ch_N} {M : Nat → Int32} (h : o_so g N t C q) (hk : k < t) (hM : o_mk g C k M N) (hb : o_fx M N b) : b = C k := by
  obtain ⟨c1, -, -, c4⟩ := h.2.2.1 k hk
  have nk : ¬ ∃ j, j < k ∧ C j = C k := fun ⟨j, hj, e⟩ => by have := o_so_inj h (by omega) hk e; omega
  have mk : M (C k) = g (C k) := by rw [(hM (C k) c1).2 nk, if_pos c4]
  -- every other is behind C k
  have other : ∀ c, c < N → c ≠ C k → M c < M (C k) ∨ (M c = M (C k) ∧ C k < c) := fun c hc hne => by
    rw [mk]
    by_cases t1 : ∃ j, j < k ∧ C j = c
    · rw [(hM c hc).1 t1]; exact Or.inl c4
    · rw [(hM c hc).2 t1]
      by_cases z : 0 < g c
      · rw [if_pos z]
        obtain ⟨j, hj, e⟩ := h.2.2.2.2 c hc z
        have hjk : k < j := by
          rcases Nat.lt_trichotomy j k with y | y | y
          · exact absurd ⟨j, y, e⟩ t1
          · subst y; exact absurd e.symm hne
          · exact y
        rcases h.2.2.2.1 k j hjk hj with y | y
        · rw [e] at y; exact Or.inl y
        · rw [e] at y; exact Or.inr ⟨y.1.symm, y.2⟩
      · rw [if_neg z]; exact Or.inl c4
  obtain ⟨hb1, hb2⟩ := hb
  refine Classical.byContradiction fun hne => ?_
  obtain ⟨g1, g2⟩ := hb2 (C k) c1
  rcases other b hb1 hne with z | ⟨z, y⟩
  · exact g1 z
  · have := g2 y
    rw [z] at this; exact Int32.lt_irrefl this
theorem o_mk_s {g : Nat → Int32} {N t k : Nat} {C : Nat → Nat} {q : ch_N} {M M' : Nat → Int32} (h : o_so g N t C q) (hk : k < t) (hM : o_mk g C k M N) (h0 : M' (C k) = 0) (hM' : ∀ c, c ≠ C k → M' c = M c) : o_mk g C (k + 1) M' N := by
  refine fun c hc => ⟨fun ⟨j, hj, e⟩ => ?_, fun z => ?_⟩
  · by_cases e2 : c = C k
    · rw [e2]; exact h0
    · rw [hM' c e2]
      refine (hM c hc).1 ⟨j, ?_, e⟩
      by_cases e3 : j = k
      · subst e3; exact absurd e.symm e2
      · omega
  · have e2 : c ≠ C k := fun e2 => z ⟨k, by omega, e2.symm⟩
    rw [hM' c e2]
    exact (hM c hc).2 (fun ⟨j, hj, e⟩ => z ⟨j, by omega, e⟩)
