/-! THE LAW: what every network of a run keeps for isSound -/
def o_T (n : ch_N) (c : Int32) : Nat := kf (fun i r => if n 3 i 4 = 1 ∧ n 3 i 5 = c then r + 1 else r) (k_mc n) 0
theorem o_T_tk (n : ch_N) (c : Int32) : k_tk n c = nI (o_T n c) := kf_cnt_I (p := fun i => n 3 i 4 = 1 ∧ n 3 i 5 = c) _
theorem o_T_le (n : ch_N) (c : Int32) : o_T n c ≤ k_mc n := kf_cnt_le (p := fun i => n 3 i 4 = 1 ∧ n 3 i 5 = c) _
def s_A (X : Nat) (n : ch_N) : Prop := (k_mc n ≤ 12 ∧ k_cc n ≤ 8) ∧ (∀ c, c < k_cc n → ¬ n 1 c 4 < nI (o_T n (nI c))) ∧ (∀ c, c < k_cc n → ¬ n 1 c 5 < nI (o_W n c)) ∧ kf (s_sa n) (k_cc n) 0 = n 7 0 0 ∧
  (∃ x y z, n 7 0 0 = nI x ∧ n 7 0 1 = nI y ∧ n 7 0 5 = nI z ∧ y ≤ x ∧ x + z ≤ X) ∧ (∀ r, r < 64 → ∃ v, n 2 r 2 = nI v ∧ v ≤ X) ∧ (∀ i, i < k_mc n → n 3 i 4 = 1 → ∃ s, s < k_cc n ∧ n 3 i 5 = nI s) ∧ ∀ r, r < 64 → ¬ 30 < n 2 r 1
theorem s_A_Snd {X : Nat} {n : ch_N} (h : s_A X n) (hX : X < 2 ^ 31) (hc : ∀ c, c < k_cc n → ¬ n 0 0 3 < n 1 c 8) : o_Snd n := by
  obtain ⟨h0, h1, h2, h3, ⟨x, y, z, ex, ey, ez, hyx, hX2⟩, h5, h6, h7⟩ := h
  refine ⟨fun c hc' => by rw [o_T_tk]; exact h1 c hc', fun c hc' => by rw [o_W_rq]; exact h2 c hc', hc, h3, ?_, by rw [ez]; exact nI_pos (by omega), h7⟩
  rw [ex, ey, nI_ltI (by omega) (by omega)]; omega
theorem s_lim {x : Int32} {T T' : Nat} (h : ¬ x < nI T) (hT : T' ≤ T) (h31 : T < 2 ^ 31) : ¬ x < nI T' := fun z => h (by
  rcases Nat.lt_or_ge T' T with g | g
  · exact Int32.lt_trans z (nI_lt g (by omega))
  · rw [show T = T' by omega]; exact z)
theorem s_lim1 {x : Int32} {T T' : Nat} (h : nI T < x) (hT : T' ≤ T + 1) (h31 : T + 1 < 2 ^ 31) : ¬ x < nI T' := by
  intro z
  have a := Int32.lt_iff_toInt_lt.mp h
  have b := Int32.lt_iff_toInt_lt.mp z
  rw [nI_toInt (by omega)] at a b
  omega
theorem s_sb_cg {n n' : ch_N} {a : Nat} (h : ∀ r, n' 2 r 2 = n 2 r 2) (N : Nat) (v : Int32) : kf (s_sb n' a) N v = kf (s_sb n a) N v := kf_cg N v (fun b y _ => by unfold s_sb; rw [h])
theorem s_sa_cg {n n' : ch_N} (h : ∀ r, n' 2 r 2 = n 2 r 2) (hc : k_cc n' = k_cc n) (N : Nat) (v : Int32) : kf (s_sa n') N v = kf (s_sa n) N v := kf_cg N v (fun a y _ => by unfold s_sa; rw [hc]; exact s_sb_cg h _ _)
/-- nothing begins -/
theorem s_A_cg' {X : Nat} {n n' : ch_N} (h : s_A X n) (ec : k_cc n' = k_cc n) (em : k_mc n' = k_mc n) (h1 : ∀ c, n' 1 c 4 = n 1 c 4 ∧ n' 1 c 5 = n 1 c 5) (h2 : ∀ r, n' 2 r 1 = n 2 r 1 ∧ n' 2 r 2 = n 2 r 2)
    (h3 : ∀ i, ((n' 3 i 4 = n 3 i 4 ∧ n' 3 i 5 = n 3 i 5) ∨ ¬ n' 3 i 4 = 1) ∧ (n' 3 i 8 = n 3 i 8 ∨ n' 3 i 8 = -1)) (h7 : n' 7 0 0 = n 7 0 0 ∧ n' 7 0 1 = n 7 0 1 ∧ n' 7 0 5 = n 7 0 5) : s_A X n' := by
  obtain ⟨a0, a1, a2, a3, a4, a5, a6, a7⟩ := h
  have hT : ∀ c, o_T n' c ≤ o_T n c := fun c => by
    unfold o_T; rw [em]
    refine kf_cnt_mono (p := fun i => n' 3 i 4 = 1 ∧ n' 3 i 5 = c) (q := fun i => n 3 i 4 = 1 ∧ n 3 i 5 = c) _ (fun i _ z => ?_)
    rcases (h3 i).1 with ⟨e4, e5⟩ | e
    · exact ⟨by rw [← e4]; exact z.1, by rw [← e5]; exact z.2⟩
    · exact absurd z.1 e
  have hW : ∀ c, c < 2 ^ 31 → o_W n' c ≤ o_W n c := fun c hc => by
    unfold o_W; rw [em]
    refine kf_cnt_mono (p := fun i => n' 3 i 8 = nI c) (q := fun i => n 3 i 8 = nI c) _ (fun i _ z => ?_)
    rcases (h3 i).2 with e | e
    · rw [← e]; exact z
    · exact absurd (z.symm.trans e) (nI_nm1 hc)
  refine ⟨by rw [ec, em]; exact a0, fun c hc => ?_, fun c hc => ?_, ?_, ?_, fun r hr => ?_, fun i hi ht => ?_, fun r hr => by rw [(h2 r).1]; exact a7 r hr⟩
  · rw [ec] at hc; rw [(h1 c).1]; exact s_lim (a1 c hc) (hT _) (by have := o_T_le n (nI c); omega)
  · rw [ec] at hc; rw [(h1 c).2]; exact s_lim (a2 c hc) (hW c (by omega)) (by have := o_W_le n c; omega)
  · rw [ec, s_sa_cg (fun r => (h2 r).2) ec, h7.1]; exact a3
  · rw [h7.1, h7.2.1, h7.2.2]; exact a4
  · rw [(h2 r).2]; exact a5 r hr
  · rw [em] at hi; rw [ec]
    rcases (h3 i).1 with ⟨e4, e5⟩ | e
    · rw [e5]; exact a6 i hi (by rw [← e4]; exact ht)
    · exact absurd ht e
theorem s_A_cg {X : Nat} {n n' : ch_N} (h : s_A X n) (h0 : n' 0 = n 0) (h1 : ∀ c, n' 1 c 4 = n 1 c 4 ∧ n' 1 c 5 = n 1 c 5) (h2 : ∀ r, n' 2 r 1 = n 2 r 1 ∧ n' 2 r 2 = n 2 r 2)
    (h3 : ∀ i, ((n' 3 i 4 = n 3 i 4 ∧ n' 3 i 5 = n 3 i 5) ∨ ¬ n' 3 i 4 = 1) ∧ (n' 3 i 8 = n 3 i 8 ∨ n' 3 i 8 = -1)) (h7 : n' 7 0 0 = n 7 0 0 ∧ n' 7 0 1 = n 7 0 1 ∧ n' 7 0 5 = n 7 0 5) : s_A X n' :=
  s_A_cg' h (k_cc_0 h0) (k_mc_0 h0) h1 h2 h3 h7
theorem s_A_mono {X Y : Nat} {n : ch_N} (h : s_A X n) (hXY : X ≤ Y) : s_A Y n := by
  obtain ⟨a0, a1, a2, a3, ⟨x, y, z, ex, ey, ez, h1, h2⟩, a5, a6, a7⟩ := h
  exact ⟨a0, a1, a2, a3, ⟨x, y, z, ex, ey, ez, h1, by omega⟩, fun r hr => by obtain ⟨v, e, hv⟩ := a5 r hr; exact ⟨v, e, by omega⟩, a6, a7⟩
theorem kf_cnt_1 {p q : Nat → Prop} [DecidablePred p] [DecidablePred q] {i : Nat} (h : ∀ j, j ≠ i → (q j → p j)) : ∀ N, kf (fun i r => if q i then r + 1 else r) N (0 : Nat) ≤ kf (fun i r => if p i then r + 1 else r) N 0 + 1 ∧ (N ≤ i → kf (fun i r => if q i then r + 1 else r) N (0 : Nat) ≤ kf (fun i r => if p i then r + 1 else r) N 0)
  | 0 => ⟨Nat.le_succ 0, fun _ => Nat.le_refl 0⟩
  | N + 1 => by
    obtain ⟨g1, g2⟩ := kf_cnt_1 h N
    rw [kf_s, kf_s]
    by_cases e : N = i
    · have g := g2 (by omega)
      refine ⟨?_, fun z => by omega⟩
      split <;> split <;> omega
    · have m : (if q N then kf (fun i r => if q i then r + 1 else r) N (0 : Nat) + 1 else kf (fun i r => if q i then r + 1 else r) N (0 : Nat)) ≤ (if q N then 1 else 0) + kf (fun i r => if q i then r + 1 else r) N (0 : Nat) := by split <;> omega
      by_cases hq : q N
      · rw [if_pos hq, if_pos (h N e hq)]
        exact ⟨by omega, fun z => by have := g2 (by omega); omega⟩
      · rw [if_neg hq]
        refine ⟨by split <;> omega, fun z => by have := g2 (by omega); split <;> omega⟩
/-- one mobile talks at a cell that was free -/
theorem s_A_up {X Y : Nat} {n n' : ch_N} {i c : Nat} (h : s_A X n) (hc : c < k_cc n) (hfr : k_free n (nI c) = true) (h0 : n' 0 = n 0) (h1 : ∀ c, n' 1 c 4 = n 1 c 4 ∧ n' 1 c 5 = n 1 c 5) (h21 : ∀ r, n' 2 r 1 = n 2 r 1)
    (h3 : ∀ j, j ≠ i → n' 3 j 4 = n 3 j 4 ∧ n' 3 j 5 = n 3 j 5 ∧ n' 3 j 8 = n 3 j 8) (h35 : n' 3 i 5 = nI c) (h38 : n' 3 i 8 = -1)
    (hs : kf (s_sa n') (k_cc n') 0 = n' 7 0 0) (h7 : ∃ x y z, n' 7 0 0 = nI x ∧ n' 7 0 1 = nI y ∧ n' 7 0 5 = nI z ∧ y ≤ x ∧ x + z ≤ Y) (h2 : ∀ r, r < 64 → ∃ v, n' 2 r 2 = nI v ∧ v ≤ Y) : s_A Y n' := by
  have ec := k_cc_0 h0
  have em := k_mc_0 h0
  obtain ⟨a0, a1, a2, a3, a4, a5, a6, a7⟩ := h
  refine ⟨by rw [ec, em]; exact a0, fun d hd => ?_, fun d hd => ?_, hs, h7, h2, fun j hj ht => ?_, fun r hr => by rw [h21]; exact a7 r hr⟩
  · rw [ec] at hd
    rw [(h1 d).1]
    by_cases e : d = c
    · subst e
      have hf : nI (o_T n (nI d)) < n 1 d 4 := by
        unfold k_free at hfr
        rw [k_cel (by omega), o_T_tk] at hfr
        exact of_decide_eq_true hfr
      refine s_lim1 hf ?_ (by have := o_T_le n (nI d); omega)
      unfold o_T; rw [em]
      exact (kf_cnt_1 (p := fun i => n 3 i 4 = 1 ∧ n 3 i 5 = nI d) (q := fun i => n' 3 i 4 = 1 ∧ n' 3 i 5 = nI d) (i := i) (fun j hj z => by rw [(h3 j hj).1, (h3 j hj).2.1] at z; exact z) _).1
    · refine s_lim (a1 d hd) ?_ (by have := o_T_le n (nI d); omega)
      unfold o_T; rw [em]
      refine kf_cnt_mono (p := fun i => n' 3 i 4 = 1 ∧ n' 3 i 5 = nI d) (q := fun i => n 3 i 4 = 1 ∧ n 3 i 5 = nI d) _ (fun j _ z => ?_)
      by_cases ej : j = i
      · subst ej
        exact absurd ((nI_eq (by omega) (by omega)).mp (z.2.symm.trans h35)) e
      · rw [(h3 j ej).1, (h3 j ej).2.1] at z; exact z
  · rw [ec] at hd
    rw [(h1 d).2]
    refine s_lim (a2 d hd) ?_ (by have := o_W_le n d; omega)
    unfold o_W; rw [em]
    refine kf_cnt_mono (p := fun i => n' 3 i 8 = nI d) (q := fun i => n 3 i 8 = nI d) _ (fun j _ z => ?_)
    by_cases ej : j = i
    · subst ej; exact absurd (z.symm.trans h38) (nI_nm1 (by omega))
    · rw [(h3 j ej).2.2] at z; exact z
  · rw [em] at hj; rw [ec]
    by_cases ej : j = i
    · subst ej; exact ⟨c, hc, h35⟩
    · rw [(h3 j ej).2.1]; exact a6 j hj (by rw [← (h3 j ej).1]; exact ht)
/-- one mobile waits at a cell that had place -/
theorem s_A_wt {X : Nat} {n n' : ch_N} {i c : Nat} (h : s_A X n) (hc : c < k_cc n) (hpl : k_place n (nI c) = true) (h0 : n' 0 = n 0) (h1 : ∀ c, n' 1 c 4 = n 1 c 4 ∧ n' 1 c 5 = n 1 c 5) (h2 : ∀ r, n' 2 r 1 = n 2 r 1 ∧ n' 2 r 2 = n 2 r 2)
    (h3 : ∀ j, j ≠ i → n' 3 j 4 = n 3 j 4 ∧ n' 3 j 5 = n 3 j 5 ∧ n' 3 j 8 = n 3 j 8) (h34 : (n' 3 i 4 = n 3 i 4 ∧ n' 3 i 5 = n 3 i 5) ∨ ¬ n' 3 i 4 = 1) (h38 : n' 3 i 8 = nI c) (h7 : n' 7 0 0 = n 7 0 0 ∧ n' 7 0 1 = n 7 0 1 ∧ n' 7 0 5 = n 7 0 5) : s_A X n' := by
  have ec := k_cc_0 h0
  have em := k_mc_0 h0
  obtain ⟨a0, a1, a2, a3, a4, a5, a6, a7⟩ := h
  have hT : ∀ c, o_T n' c ≤ o_T n c := fun c => by
    unfold o_T; rw [em]
    refine kf_cnt_mono (p := fun i => n' 3 i 4 = 1 ∧ n' 3 i 5 = c) (q := fun i => n 3 i 4 = 1 ∧ n 3 i 5 = c) _ (fun j _ z => ?_)
    by_cases ej : j = i
    · subst ej
      rcases h34 with ⟨e4, e5⟩ | e
      · exact ⟨by rw [← e4]; exact z.1, by rw [← e5]; exact z.2⟩
      · exact absurd z.1 e
    · rw [(h3 j ej).1, (h3 j ej).2.1] at z; exact z
  refine ⟨by rw [ec, em]; exact a0, fun d hd => ?_, fun d hd => ?_, by rw [ec, s_sa_cg (fun r => (h2 r).2) ec, h7.1]; exact a3, by rw [h7.1, h7.2.1, h7.2.2]; exact a4, fun r hr => by rw [(h2 r).2]; exact a5 r hr, fun j hj ht => ?_, fun r hr => by rw [(h2 r).1]; exact a7 r hr⟩
  · rw [ec] at hd; rw [(h1 d).1]; exact s_lim (a1 d hd) (hT _) (by have := o_T_le n (nI d); omega)
  · rw [ec] at hd
    rw [(h1 d).2]
    by_cases e : d = c
    · subst e
      have hf : nI (o_W n d) < n 1 d 5 := by
        unfold k_place at hpl
        rw [k_cel (by omega), o_W_rq] at hpl
        exact of_decide_eq_true hpl
      refine s_lim1 hf ?_ (by have := o_W_le n d; omega)
      unfold o_W; rw [em]
      exact (kf_cnt_1 (p := fun i => n 3 i 8 = nI d) (q := fun i => n' 3 i 8 = nI d) (i := i) (fun j hj z => by rw [(h3 j hj).2.2] at z; exact z) _).1
    · refine s_lim (a2 d hd) ?_ (by have := o_W_le n d; omega)
      unfold o_W; rw [em]
      refine kf_cnt_mono (p := fun i => n' 3 i 8 = nI d) (q := fun i => n 3 i 8 = nI d) _ (fun j _ z => ?_)
      by_cases ej : j = i
      · subst ej; exact absurd ((nI_eq (by omega) (by omega)).mp (z.symm.trans h38)) e
      · rw [(h3 j ej).2.2] at z; exact z
  · rw [em] at hj; rw [ec]
    by_cases ej : j = i
    · subst ej
      rcases h34 with ⟨e4, e5⟩ | e
      · rw [e5]; exact a6 j hj (by rw [← e4]; exact ht)
      · exact absurd ht e
    · rw [(h3 j ej).2.1]; exact a6 j hj (by rw [← (h3 j ej).1]; exact ht)
/-! sums of handovers -/
theorem s_sb_sh {n : ch_N} {a : Nat} {d : Int32} : ∀ N v, kf (s_sb n a) N (v + d) = kf (s_sb n a) N v + d
  | 0, _ => rfl
  | N + 1, v => by
    rw [kf_s, kf_s, s_sb_sh N v]
    unfold s_sb
    rw [Int32.add_assoc, Int32.add_comm d, ← Int32.add_assoc]
theorem s_sb_1 {n n' : ch_N} {s t a : Nat} (ht : t < 8) (h : ∀ r, n' 2 r 2 = if r = 8 * s + t then n 2 r 2 + 1 else n 2 r 2) : ∀ N, N ≤ 8 → ∀ v, kf (s_sb n' a) N v = kf (s_sb n a) N v + (if a = s ∧ t < N then 1 else 0)
  | 0, _, v => by rw [if_neg (by omega), Int32.add_zero]; rfl
  | N + 1, hN, v => by
    rw [kf_s, kf_s, s_sb_1 ht h N (by omega) v]
    unfold s_sb
    rw [h]
    by_cases e : 8 * a + N = 8 * s + t
    · rw [if_pos e, if_neg (by omega), if_pos (by omega), Int32.add_zero, Int32.add_assoc]
    · rw [if_neg e]
      by_cases g : a = s ∧ t < N
      · rw [if_pos g, if_pos (by omega), Int32.add_assoc, Int32.add_comm 1, ← Int32.add_assoc]
      · rw [if_neg g, if_neg (by omega), Int32.add_zero, Int32.add_zero]
theorem s_sa_1 {n n' : ch_N} {s t : Nat} (h8 : k_cc n ≤ 8) (ht : t < k_cc n) (hc : k_cc n' = k_cc n) (h : ∀ r, n' 2 r 2 = if r = 8 * s + t then n 2 r 2 + 1 else n 2 r 2) (N : Nat) (v : Int32) : kf (s_sa n') N v = kf (s_sa n) N v + (if s < N then 1 else 0) := by
  induction N with
  | zero => show v = v + (if s < 0 then 1 else 0); rw [if_neg (Nat.not_lt_zero _), Int32.add_zero]
  | succ N ih =>
    have e1 : ∀ x, s_sa n' N x = s_sa n N x + (if N = s ∧ t < k_cc n then 1 else 0) := fun x => by
      unfold s_sa
      rw [hc]
      exact s_sb_1 (by omega) h _ h8 x
    have e2 : ∀ x d, s_sa n N (x + d) = s_sa n N x + d := fun x d => by unfold s_sa; exact s_sb_sh (n := n) (a := N) (d := d) (k_cc n) x
    rw [kf_s, kf_s, ih, e1, e2]
    by_cases e : s < N
    · rw [if_pos e, if_neg (by omega), if_pos (by omega), Int32.add_zero]
    · rw [if_neg e]
      by_cases g : N = s
      · rw [if_pos ⟨g, ht⟩, if_pos (by omega), Int32.add_zero]
      · rw [if_neg (fun z => g z.1), if_neg (by omega), Int32.add_zero, Int32.add_zero]
