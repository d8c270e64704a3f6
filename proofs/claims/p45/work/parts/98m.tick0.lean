/-! THE LAW: what isTick sees of a tick -/
def s_V (n : ch_N) (r : Nat) : Nat := Int32.toNatClampNeg (n 2 r 2)
def s_E (n0 n : ch_N) : Nat := kf (fun m r => if n0 3 m 4 = 1 ∧ ¬ n 3 m 4 = 1 then r + 1 else r) (k_mc n0) 0
def s_z (n : ch_N) : Prop := ∀ m, m < k_mc n → n 3 m 4 = 0 → n 3 m 8 = -1
def s_P1 (n0 n : ch_N) (m : Nat) : Prop := n 3 m 5 = n0 3 m 5 ∨ ∃ s f, s < k_cc n0 ∧ f < k_cc n0 ∧ n0 3 m 5 = nI s ∧ n 3 m 5 = nI f ∧ s_V n0 (8 * s + f) < s_V n (8 * s + f)
def s_P2 (n0 n : ch_N) (m : Nat) : Prop := n 3 m 5 = n0 3 m 5 ∨ ∃ s b f, s < k_cc n0 ∧ b < k_cc n0 ∧ f < k_cc n0 ∧ n0 3 m 5 = nI s ∧ n 3 m 5 = nI f ∧ (b = s ∨ s_V n0 (8 * s + b) < s_V n (8 * s + b)) ∧ s_V n0 (8 * b + f) < s_V n (8 * b + f)
def s_cn (n0 n : ch_N) : Prop := n 7 0 2 + n 7 0 3 = n0 7 0 2 + n0 7 0 3 + nI (s_E n0 n)
/-- up to the drops -/
def s_D (n0 n : ch_N) : Prop := n 0 = n0 0 ∧ n 2 = n0 2 ∧ (∀ m, (n 3 m 4 = n0 3 m 4 ∧ n 3 m 5 = n0 3 m 5) ∨ (n0 3 m 4 = 1 ∧ n 3 m 4 = 0)) ∧ s_z n ∧ s_cn n0 n
theorem s_E_cg {n0 n n' : ch_N} (h : ∀ m, m < k_mc n0 → n0 3 m 4 = 1 → (n' 3 m 4 = 1 ↔ n 3 m 4 = 1)) : s_E n0 n' = s_E n0 n :=
  kf_cnt_eq (p := fun m => n0 3 m 4 = 1 ∧ ¬ n' 3 m 4 = 1) (q := fun m => n0 3 m 4 = 1 ∧ ¬ n 3 m 4 = 1) _ (fun m hm => ⟨fun z => ⟨z.1, fun y => z.2 ((h m hm z.1).mpr y)⟩, fun z => ⟨z.1, fun y => z.2 ((h m hm z.1).mp y)⟩⟩)
theorem s_D_cg {n0 n n' : ch_N} (h : s_D n0 n) (h0 : n' 0 = n 0) (h2 : n' 2 = n 2) (h3 : ∀ m, n' 3 m 4 = n 3 m 4 ∧ n' 3 m 5 = n 3 m 5 ∧ n' 3 m 8 = n 3 m 8) (h7 : n' 7 = n 7) : s_D n0 n' := by
  obtain ⟨a, b, c, d, e⟩ := h
  refine ⟨h0.trans a, h2.trans b, fun m => by rw [(h3 m).1, (h3 m).2.1]; exact c m, fun m hm z => ?_, ?_⟩
  · rw [k_mc_0 h0] at hm; rw [(h3 m).1] at z; rw [(h3 m).2.2]; exact d m hm z
  · unfold s_cn at e ⊢; rw [h7, s_E_cg (n := n) (fun m _ _ => by rw [(h3 m).1])]; exact e
theorem s_D_end {n0 n : ch_N} (h : s_D n0 n) {i t : Nat} (hi : i < k_mc n) (ht : n 3 i 4 = 1) (ht2 : t = 2 ∨ t = 3) : s_D n0 (k_cnt (k_idle n i) t) := by
  obtain ⟨a, b, c, d, e⟩ := h
  have ei : ∀ kd, kd ≠ 3 → kd ≠ 5 → kd ≠ 6 → k_idle n i kd = n kd := fun kd a b c => k_idle_ne a b c
  have e0 : k_cnt (k_idle n i) t 0 = n 0 := (k_cnt_0 _ _).trans (ei 0 (by decide) (by decide) (by decide))
  have i4 : ∀ m, k_cnt (k_idle n i) t 3 m 4 = if m = i then 0 else n 3 m 4 := fun m => by rw [k_cnt_3, idle_3 n i m 4 (Or.inl rfl)]; rfl
  have i5 : ∀ m, k_cnt (k_idle n i) t 3 m 5 = if m = i then -1 else n 3 m 5 := fun m => by rw [k_cnt_3, idle_3 n i m 5 (Or.inr (Or.inl rfl))]; rfl
  have i8 : ∀ m, k_cnt (k_idle n i) t 3 m 8 = if m = i then -1 else n 3 m 8 := fun m => by rw [k_cnt_3, idle_3 n i m 8 (Or.inr (Or.inr rfl))]; rfl
  have h01 : n0 3 i 4 = 1 := by
    rcases c i with ⟨z, -⟩ | ⟨z, -⟩
    · rw [← z]; exact ht
    · exact z
  have em : k_mc n = k_mc n0 := k_mc_0 a
  refine ⟨e0.trans a, by rw [k_cnt_k _ t (by decide), ei 2 (by decide) (by decide) (by decide)]; exact b, fun m => ?_, fun m hm z => ?_, ?_⟩
  · rw [i4, i5]
    by_cases g : m = i
    · rw [if_pos g, if_pos g]; exact Or.inr ⟨by rw [g]; exact h01, rfl⟩
    · rw [if_neg g, if_neg g]; exact c m
  · rw [k_mc_0 e0] at hm; rw [i4] at z; rw [i8]
    by_cases g : m = i
    · rw [if_pos g]
    · rw [if_neg g] at z ⊢; exact d m hm z
  · have eE : s_E n0 (k_cnt (k_idle n i) t) = s_E n0 n + 1 := by
      refine kf_cnt_add (p := fun m => n0 3 m 4 = 1 ∧ ¬ n 3 m 4 = 1) (q := fun m => n0 3 m 4 = 1 ∧ ¬ k_cnt (k_idle n i) t 3 m 4 = 1) (m := i) ⟨⟨h01, by rw [i4, if_pos rfl]; decide⟩, fun z => z.2 ht⟩ _ (fun m hm g => by rw [i4, if_neg g]) (by rw [← em]; exact hi)
    unfold s_cn at e ⊢
    rw [eE, ← nI_1, ← Int32.add_assoc, ← e]
    unfold k_cnt
    rw [ei 7 (by decide) (by decide) (by decide), nw_at, nw_at]
    rcases ht2 with rfl | rfl
    · simp [Int32.add_assoc, Int32.add_comm]; rw [ei 7 (by decide) (by decide) (by decide)]
    · simp [Int32.add_assoc]; rw [ei 7 (by decide) (by decide) (by decide)]
theorem s_D_fin (n0 : ch_N) (i : Nat) (n : ch_N) (hi : i < k_mc n) (h : s_D n0 n) : s_D n0 (s_fin i n) := by
  unfold s_fin
  split
  · rename_i ht
    rw [k_fin_eq]
    split
    · exact s_D_cg h (nw_k (by decide)) (nw_k (by decide)) (fun m => by simp [nw_at]) (nw_k (by decide))
    · exact s_D_end h hi ht (Or.inl rfl)
  · exact h
theorem s_D_dr (n0 : ch_N) (i : Nat) (n : ch_N) (hi : i < k_mc n) (h : s_D n0 n) : s_D n0 (s_dr i n) := by
  unfold s_dr
  split
  · rename_i ht
    obtain ⟨v, hv⟩ : ∃ v, v = if k_avg n i (n 3 i 5) < n 0 0 8 then n 3 i 7 + 1 else 0 := ⟨_, rfl⟩
    rw [k_dr_eq n i v hv]
    split
    · exact s_D_cg h (nw_k (by decide)) (nw_k (by decide)) (fun m => by simp [nw_at]) (nw_k (by decide))
    · exact s_D_end h hi ht (Or.inr rfl)
  · exact h
theorem s_D_mv (n0 : ch_N) (i : Nat) (n : ch_N) (h : s_D n0 n) : s_D n0 (s_mv i n) := by
  refine s_D_cg h (s_mv_ne (by decide)) (s_mv_ne (by decide)) (fun m => ?_) (s_mv_ne (by decide))
  unfold s_mv k_mv
  simp [nw_at]
theorem s_D_ms (n0 : ch_N) (i : Nat) (n : ch_N) (h : s_D n0 n) : s_D n0 (s_ms i n) := by
  unfold s_ms
  split
  · have e : ∀ kd, kd ≠ 4 → kd ≠ 5 → k_ms n i kd = n kd := fun kd a b => k_msL_k i _ n a b
    exact s_D_cg h (e 0 (by decide) (by decide)) (e 2 (by decide) (by decide)) (fun m => by rw [e 3 (by decide) (by decide)]; exact ⟨rfl, rfl, rfl⟩) (e 7 (by decide) (by decide))
  · exact h
theorem s_D_kf {n0 : ch_N} {f : Nat → ch_N → ch_N} {M : Nat} (h0 : ∀ i n, (f i n) 0 = n 0) (hf : ∀ i n, i < k_mc n → s_D n0 n → s_D n0 (f i n)) : ∀ (N : Nat) (n : ch_N), N ≤ M → k_mc n = M → s_D n0 n → s_D n0 (kf f N n)
  | 0, _, _, _, h => h
  | N + 1, n, hN, hM, h => hf N _ (by rw [k_mc_0 (kf_0 h0 N n), hM]; omega) (s_D_kf h0 hf N n (by omega) hM h)
/-- from the service on; mobiles below J may have gone on twice -/
def s_F (n0 n : ch_N) (J : Nat) (sv : Prop) : Prop := n 0 = n0 0 ∧ (∀ m, m < k_mc n0 → (n0 3 m 4 = 0 → n 3 m 4 = 0) ∧ (n0 3 m 4 = 1 → n 3 m 4 = 1 ∨ n 3 m 4 = 0)) ∧ s_z n ∧ s_cn n0 n ∧ (∀ r, r < 64 → s_V n0 r ≤ s_V n r) ∧
  ∀ m, m < k_mc n0 → n0 3 m 4 = 1 → n 3 m 4 = 1 → (sv → n 3 m 8 = -1 ∨ n 3 m 5 = n0 3 m 5) ∧ s_P2 n0 n m ∧ (J ≤ m → s_P1 n0 n m)
theorem s_F_D {n0 n : ch_N} (h : s_D n0 n) : s_F n0 n 0 True := by
  obtain ⟨a, b, c, d, e⟩ := h
  refine ⟨a, fun m hm => ⟨fun z => ?_, fun z => ?_⟩, d, e, fun r hr => by unfold s_V; rw [b]; exact Nat.le_refl _, fun m hm z0 z1 => ?_⟩
  · rcases c m with ⟨y, -⟩ | ⟨y, -⟩
    · rw [y]; exact z
    · rw [z] at y; exact absurd y (by decide)
  · rcases c m with ⟨y, -⟩ | ⟨-, y⟩
    · exact Or.inl (by rw [y]; exact z)
    · exact Or.inr y
  · have h5 : n 3 m 5 = n0 3 m 5 := by
      rcases c m with ⟨-, y⟩ | ⟨-, y⟩
      · exact y
      · rw [z1] at y; exact absurd y (by decide)
    exact ⟨fun _ => Or.inr h5, Or.inl h5, fun _ => Or.inl h5⟩
theorem s_P1_mono {n0 n n' : ch_N} {m : Nat} (h8 : k_cc n0 ≤ 8) (h : s_P1 n0 n m) (h5 : n' 3 m 5 = n 3 m 5) (hV : ∀ r, r < 64 → s_V n r ≤ s_V n' r) : s_P1 n0 n' m := by
  rcases h with h | ⟨s, f, a, b, c, d, e⟩
  · exact Or.inl (h5.trans h)
  · exact Or.inr ⟨s, f, a, b, c, h5.trans d, Nat.lt_of_lt_of_le e (hV _ (by omega))⟩
theorem s_P2_mono {n0 n n' : ch_N} {m : Nat} (h8 : k_cc n0 ≤ 8) (h : s_P2 n0 n m) (h5 : n' 3 m 5 = n 3 m 5) (hV : ∀ r, r < 64 → s_V n r ≤ s_V n' r) : s_P2 n0 n' m := by
  rcases h with h | ⟨s, b, f, a1, a2, a3, c, d, e1, e2⟩
  · exact Or.inl (h5.trans h)
  · exact Or.inr ⟨s, b, f, a1, a2, a3, c, h5.trans d, e1.imp id (fun z => Nat.lt_of_lt_of_le z (hV _ (by omega))), Nat.lt_of_lt_of_le e2 (hV _ (by omega))⟩
/-- nothing is handed over, nothing begins or ends of what talked or rested -/
theorem s_F_cg {n0 n n' : ch_N} {J : Nat} {sv sv' : Prop} (h8 : k_cc n0 ≤ 8) (h : s_F n0 n J sv) (h0 : n' 0 = n 0) (hV : ∀ r, s_V n' r = s_V n r) (h7 : n' 7 0 2 = n 7 0 2 ∧ n' 7 0 3 = n 7 0 3)
    (h3 : ∀ m, m < k_mc n → (n 3 m 4 = 0 → n' 3 m 4 = 0) ∧ (n 3 m 4 = 1 → n' 3 m 4 = 1 ∧ n' 3 m 5 = n 3 m 5 ∧ (sv' → sv ∧ (n' 3 m 8 = -1 ∨ n' 3 m 8 = n 3 m 8)))) (hz : s_z n') (h2 : ∀ m, m < k_mc n → n' 3 m 4 = 1 → n 3 m 4 = 0 → False) : s_F n0 n' J sv' := by
  obtain ⟨a, b, c, d, e, f⟩ := h
  have em : k_mc n = k_mc n0 := k_mc_0 a
  have key : ∀ m, m < k_mc n0 → n0 3 m 4 = 1 → (n' 3 m 4 = 1 ↔ n 3 m 4 = 1) := fun m hm z => ⟨fun y => by
      rcases (b m hm).2 z with x | x
      · exact x
      · exact (h2 m (by omega) y x).elim, fun y => ((h3 m (by omega)).2 y).1⟩
  refine ⟨h0.trans a, fun m hm => ⟨fun z => (h3 m (by omega)).1 ((b m hm).1 z), fun z => ?_⟩, hz, ?_, fun r hr => by rw [hV]; exact e r hr, fun m hm z0 z1 => ?_⟩
  · rcases (b m hm).2 z with y | y
    · exact Or.inl ((h3 m (by omega)).2 y).1
    · exact Or.inr ((h3 m (by omega)).1 y)
  · unfold s_cn at d ⊢; rw [h7.1, h7.2, s_E_cg key]; exact d
  · have y := (key m hm z0).mp z1
    obtain ⟨g1, g2, g3⟩ := (h3 m (by omega)).2 y
    obtain ⟨f1, f2, f3⟩ := f m hm z0 y
    have hV' : ∀ r, r < 64 → s_V n r ≤ s_V n' r := fun r _ => by rw [hV]; exact Nat.le_refl _
    refine ⟨fun x => ?_, s_P2_mono h8 f2 g2 hV', fun hJ => s_P1_mono h8 (f3 hJ) g2 hV'⟩
    obtain ⟨x1, x2⟩ := g3 x
    rcases x2 with x2 | x2
    · exact Or.inl x2
    · rcases f1 x1 with w | w
      · exact Or.inl (x2.trans w)
      · exact Or.inr (g2.trans w)
theorem s_V_ho {n : ch_N} {X i s c : Nat} (hA : s_A X n) (hX : X + 1 < 2 ^ 31) (hs : s < 8) (hc : c < 8) (h5 : n 3 i 5 = nI s) (r : Nat) (hr : r < 64) : s_V (k_ho n i (nI c)) r = s_V n r + if r = 8 * s + c then 1 else 0 := by
  obtain ⟨v, ev, hv⟩ := hA.2.2.2.2.2.1 r hr
  unfold s_V
  rw [ho_2, h5, r_rx hs hc]
  by_cases e : r = 8 * s + c
  · rw [if_pos ⟨e, rfl⟩, if_pos e, ev, nI_1, nI_clamp (by omega), nI_clamp (by omega)]
  · rw [if_neg (fun z => e z.1), if_neg e]; rfl
theorem s_F_ho {n0 n : ch_N} {J J' X : Nat} {sv : Prop} (h : s_F n0 n J sv) (hA : s_A X n) (hX : X + 1 < 2 ^ 31) {i c : Nat} (hi : i < k_mc n) (ht : n 3 i 4 = 1) (hc : c < k_cc n) (hJ : J ≤ J')
    (hm : n0 3 i 4 = 1 → (J ≤ i) ∧ (J' ≤ i → n 3 i 5 = n0 3 i 5)) : s_F n0 (k_ho n i (nI c)) J' sv := by
  obtain ⟨s, hs, h5⟩ := hA.2.2.2.2.2.2.1 i hi ht
  have h8 := hA.1.2
  obtain ⟨a, b, cz, d, e, f⟩ := h
  have em : k_mc n = k_mc n0 := k_mc_0 a
  have ec : k_cc n = k_cc n0 := k_cc_0 a
  have e0 : k_ho n i (nI c) 0 = n 0 := k_ho_0 n i (nI c)
  have e4 : ∀ m, k_ho n i (nI c) 3 m 4 = n 3 m 4 := fun m => by rw [ho_3]; simp
  have e5 : ∀ m, m ≠ i → k_ho n i (nI c) 3 m 5 = n 3 m 5 := fun m hm => by rw [ho_3]; simp [hm]
  have e5i : k_ho n i (nI c) 3 i 5 = nI c := by rw [ho_3]; simp
  have e8 : ∀ m, k_ho n i (nI c) 3 m 8 = if m = i then -1 else n 3 m 8 := fun m => by rw [ho_3]; by_cases g : m = i <;> simp [g]
  have e7 : ∀ k, k ≠ 0 → k ≠ 1 → k_ho n i (nI c) 7 0 k = n 7 0 k := fun k g0 g1 => by rw [ho_7, if_neg g0, if_neg (fun z => g1 z.1)]
  have eV := s_V_ho hA hX (show s < 8 by omega) (show c < 8 by omega) h5
  have hV : ∀ r, r < 64 → s_V n r ≤ s_V (k_ho n i (nI c)) r := fun r hr => by rw [eV r hr]; omega
  refine ⟨e0.trans a, fun m hm => by rw [e4]; exact b m hm, fun m hm z => ?_, ?_, fun r hr => Nat.le_trans (e r hr) (hV r hr), fun m hm' z0 z1 => ?_⟩
  · rw [k_mc_0 e0] at hm; rw [e4] at z; rw [e8]
    split
    · rfl
    · exact cz m hm z
  · unfold s_cn at d ⊢; rw [e7 2 (by decide) (by decide), e7 3 (by decide) (by decide), s_E_cg (n := n) (fun m _ _ => by rw [e4])]; exact d
  · rw [e4] at z1
    obtain ⟨f1, f2, f3⟩ := f m hm' z0 z1
    by_cases g : m = i
    · subst g
      obtain ⟨m1, m2⟩ := hm z0
      have hup : s_V n0 (8 * s + c) < s_V (k_ho n m (nI c)) (8 * s + c) := by
        rw [eV _ (by omega), if_pos rfl]
        exact Nat.lt_succ_of_le (e _ (by omega))
      have p2 : s_P2 n0 (k_ho n m (nI c)) m := by
        rcases f3 m1 with y | ⟨s', f', q1, q2, q3, q4, q5⟩
        · exact Or.inr ⟨s, s, c, by omega, by omega, by omega, by rw [← y]; exact h5, e5i, Or.inl rfl, hup⟩
        · have : f' = s := (nI_eq (by omega) (by omega)).mp (q4.symm.trans h5)
          subst this
          exact Or.inr ⟨s', f', c, q1, q2, by omega, q3, e5i, Or.inr (Nat.lt_of_lt_of_le q5 (hV _ (by omega))), hup⟩
      refine ⟨fun _ => Or.inl (by rw [e8, if_pos rfl]), p2, fun hj => ?_⟩
      exact Or.inr ⟨s, c, by omega, by omega, by rw [← m2 hj]; exact h5, e5i, hup⟩
    · refine ⟨fun x => by rw [e8, if_neg g, e5 m g]; exact f1 x, s_P2_mono (by omega) f2 (e5 m g) hV, fun hj => s_P1_mono (by omega) (f3 (by omega)) (e5 m g) hV⟩
theorem s_F_J {n0 n : ch_N} {J J' : Nat} {sv sv' : Prop} (h : s_F n0 n J sv) (hJ : J ≤ J') (hs : sv' → sv) : s_F n0 n J' sv' := by
  obtain ⟨a, b, c, d, e, f⟩ := h
  exact ⟨a, b, c, d, e, fun m hm z0 z1 => ⟨fun x => (f m hm z0 z1).1 (hs x), (f m hm z0 z1).2.1, fun x => (f m hm z0 z1).2.2 (by omega)⟩⟩
theorem s_F_cnt {n0 n : ch_N} {J t : Nat} {sv : Prop} (h8 : k_cc n0 ≤ 8) (h : s_F n0 n J sv) (ht : t ≠ 2 ∧ t ≠ 3) : s_F n0 (k_cnt n t) J sv := by
  have e7 : ∀ k, k ≠ t → k_cnt n t 7 0 k = n 7 0 k := fun k hk => by unfold k_cnt; rw [nw_at, if_neg (fun z => hk z.2.2)]
  refine s_F_cg h8 h (k_cnt_0 n t) (fun r => by unfold s_V; rw [k_cnt_k n t (by decide)]) ⟨e7 2 ht.1.symm, e7 3 ht.2.symm⟩ (fun m hm => by rw [k_cnt_3]; exact ⟨id, fun z => ⟨z, rfl, fun x => ⟨x, Or.inr rfl⟩⟩⟩) (fun m hm z => ?_) (fun m hm z y => ?_)
  · rw [k_cnt_3] at z ⊢; rw [k_mc_0 (k_cnt_0 n t)] at hm; exact h.2.2.1 m hm z
  · rw [k_cnt_3, y] at z; exact absurd z (by decide)
/-- one that waited begins -/
theorem s_F_beg {n0 n : ch_N} {J : Nat} {sv : Prop} (h8 : k_cc n0 ≤ 8) (h : s_F n0 n J sv) {i : Nat} {c : Int32} (ht : ¬ n 3 i 4 = 1) (hz0 : ¬ n 3 i 4 = 0) : s_F n0 (k_beg n i c) J sv := by
  have ei : ∀ kd, kd ≠ 3 → kd ≠ 5 → kd ≠ 6 → k_beg n i c kd = n kd := fun kd a b d => k_beg_ne a b d
  have e4 := fun m => beg_3 n i m 4 c (Or.inl rfl)
  have e5 := fun m => beg_3 n i m 5 c (Or.inr (Or.inl rfl))
  have e8 := fun m => beg_3 n i m 8 c (Or.inr (Or.inr rfl))
  refine s_F_cg h8 h (ei 0 (by decide) (by decide) (by decide)) (fun r => by unfold s_V; rw [ei 2 (by decide) (by decide) (by decide)]) (by rw [ei 7 (by decide) (by decide) (by decide)]; exact ⟨rfl, rfl⟩) (fun m hm => ⟨fun z => ?_, fun z => ?_⟩) (fun m hm z => ?_) (fun m hm z y => ?_)
  · have g : m ≠ i := fun q => hz0 (q ▸ z)
    rw [e4, if_neg g]; exact z
  · have g : m ≠ i := fun q => ht (q ▸ z)
    rw [e4, e5, e8, if_neg g, if_neg g, if_neg g]; exact ⟨z, rfl, fun x => ⟨x, Or.inr rfl⟩⟩
  · rw [e4] at z; rw [e8]
    by_cases g : m = i
    · rw [if_pos g] at z ⊢; rfl
    · rw [if_neg g] at z ⊢; rw [k_mc_0 (ei 0 (by decide) (by decide) (by decide))] at hm; exact h.2.2.1 m hm z
  · have g : m ≠ i := fun q => hz0 (q ▸ y)
    rw [e4, if_neg g, y] at z; exact absurd z (by decide)
theorem s_F_sv {n0 n : ch_N} {X : Nat} (h : s_F n0 n 0 True) (hA : s_A X n) (hX : X + 1 < 2 ^ 31) {i c : Nat} (hi : i < k_mc n) (hc : c < k_cc n) (h8 : n 3 i 8 = nI c) : s_F n0 (k_sv n i (nI c)) 0 True := by
  have hc8 : k_cc n0 ≤ 8 := by rw [← k_cc_0 h.1]; exact hA.1.2
  have hne : ¬ n 3 i 8 = -1 := fun z => nI_nm1 (show c < 2 ^ 31 by have := hA.1.2; omega) (h8.symm.trans z)
  unfold k_sv
  refine s_F_cnt hc8 ?_ (by decide)
  by_cases ht : n 3 i 4 = 1
  · rw [if_pos ht]
    refine s_F_ho h hA hX hi ht hc (Nat.le_refl 0) (fun z0 => ⟨Nat.zero_le _, fun _ => ?_⟩)
    rcases (h.2.2.2.2.2 i (by rw [← k_mc_0 h.1]; exact hi) z0 ht).1 trivial with y | y
    · exact absurd y hne
    · exact y
  · rw [if_neg ht]
    exact s_F_beg hc8 h ht (fun z => hne (h.2.2.1 i hi z))
theorem s_F_svL {n0 : ch_N} {c : Nat} : ∀ (j X : Nat) (n : ch_N), X + j < 2 ^ 31 → s_A X n → c < k_cc n → s_F n0 n 0 True → s_F n0 (k_svL (nI c) j n) 0 True
  | 0, _, _, _, _, _, h => h
  | j + 1, X, n, hX, hA, hc, h => by
    show s_F n0 (if k_free n (nI c) = true then (if k_qm n (nI c) 0 = -1 then n else k_svL (nI c) j (k_sv n (k_ix 12 12 (k_qm n (nI c) 0)) (nI c))) else n) 0 True
    by_cases hfr : k_free n (nI c) = true
    · rw [if_pos hfr]
      rcases r_q0 hA.1.1 (nI c) with ⟨e, -⟩ | ⟨m, hm, e, e8, -⟩
      · rw [if_pos e]; exact h
      · have hm12 := hA.1.1
        rw [e, if_neg (nI_nm1 (by omega)), k_mob (by omega)]
        exact s_F_svL j (X + 1) _ (by omega) (s_A_sv hA hm hc hfr) (by rw [k_cc_0 (k_sv_0 n m (nI c))]; exact hc) (s_F_sv h hA (by omega) hm hc e8)
    · rw [if_neg hfr]; exact h
theorem s_F_svs {n0 n : ch_N} {X : Nat} (hX : X + 96 < 2 ^ 31) (hA : s_A X n) (h : s_F n0 n 0 True) : ∀ N, N ≤ k_cc n → s_F n0 (kf s_sv N n) 0 True
  | 0, _ => h
  | N + 1, hN => by
    have h8 := hA.1.2
    rw [kf_s]
    exact s_F_svL (c := N) 12 _ _ (by omega) (s_A_svs hA N (by omega)) (by rw [k_cc_0 (show kf s_sv N n 0 = n 0 from kf_0 (fun c n => k_svL_0 (nI c) 12 n) N n)]; omega) (s_F_svs hX hA h N (by omega))
