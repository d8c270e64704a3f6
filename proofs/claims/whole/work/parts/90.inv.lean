/-! THE INVARIANT: what the class keeps for itself -/
def k_G (n : ch_N) : Prop := (∀ m, m < 12 → n 3 m 4 = 0 → n 3 m 6 = 0) ∧ ∀ r, r < 64 → ¬ n 2 r 1 < 0
theorem G_row {n n' : ch_N} (h : k_G n) (h3 : ∀ m, m < 12 → (n' 3 m 4 = n 3 m 4 ∧ n' 3 m 6 = n 3 m 6) ∨ ¬ n' 3 m 4 = 0 ∨ n' 3 m 6 = 0) (h2 : ∀ r, r < 64 → n' 2 r 1 = n 2 r 1) : k_G n' := by
  refine ⟨fun m hm h4 => ?_, fun r hr => by rw [h2 r hr]; exact h.2 r hr⟩
  rcases h3 m hm with ⟨e4, e6⟩ | e | e
  · rw [e6]; exact h.1 m hm (by rw [← e4]; exact h4)
  · exact absurd h4 e
  · exact e
theorem G_same {n n' : ch_N} (h : k_G n) (h3 : n' 3 = n 3) (h2 : n' 2 = n 2) : k_G n' := G_row h (fun m _ => Or.inl ⟨by rw [h3], by rw [h3]⟩) (fun r _ => by rw [h2])
theorem G_nw3 {n : ch_N} (h : k_G n) {i j : Nat} (hj : j ≠ 4 ∧ j ≠ 6) (v : Int32) : k_G (nw n 3 i j v) := G_row h (fun m _ => Or.inl ⟨by rw [nw_at, if_neg (fun z => hj.1 z.2.2.symm)], by rw [nw_at, if_neg (fun z => hj.2 z.2.2.symm)]⟩) (fun r _ => by rw [nw_k (by decide)])
theorem G_nw2 {n : ch_N} (h : k_G n) {i j : Nat} (hj : j ≠ 1) (v : Int32) : k_G (nw n 2 i j v) := G_row h (fun m _ => Or.inl ⟨by rw [nw_k (by decide)], by rw [nw_k (by decide)]⟩) (fun r _ => by rw [nw_at, if_neg (fun z => hj z.2.2.symm)])
theorem G_nwo {n : ch_N} (h : k_G n) {kd i j : Nat} (h3 : 3 ≠ kd) (h2 : 2 ≠ kd) (v : Int32) : k_G (nw n kd i j v) := G_same h (nw_k h3) (nw_k h2)
theorem G_nao {n : ch_N} (h : k_G n) {kd i : Nat} (h3 : 3 ≠ kd) (h2 : 2 ≠ kd) (f : Nat → Int32) : k_G (na n kd i f) := G_same h (na_k h3) (na_k h2)
theorem G_cnt {n : ch_N} (h : k_G n) (j : Nat) : k_G (k_cnt n j) := G_nwo h (by decide) (by decide) _
theorem G_clr {n : ch_N} (h : k_G n) (i : Nat) : k_G (k_clr n i) := G_nao (G_nao h (by decide) (by decide) _) (by decide) (by decide) _
theorem G_idle {n : ch_N} (h : k_G n) (i : Nat) : k_G (k_idle n i) := by
  refine G_clr (G_row h (fun m _ => ?_) (fun r _ => by simp only [nw_k (show 2 ≠ 3 by decide)])) i
  by_cases e : m = i
  · subst e; exact Or.inr (Or.inr (by simp [nw_at]))
  · exact Or.inl ⟨by simp [nw_at, e], by simp [nw_at, e]⟩
theorem G_beg6 {n : ch_N} (h : k_G n) (i : Nat) (c d : Int32) : k_G (k_beg (nw n 3 i 6 d) i c) := by
  refine G_clr (G_row h (fun m _ => ?_) (fun r _ => by simp only [nw_k (show 2 ≠ 3 by decide)])) i
  by_cases e : m = i
  · subst e; exact Or.inr (Or.inl (by simp [nw_at]))
  · exact Or.inl ⟨by simp [nw_at, e], by simp [nw_at, e]⟩
theorem G_beg {n : ch_N} (h : k_G n) (i : Nat) (c : Int32) : k_G (k_beg n i c) := by
  refine G_clr (G_row h (fun m _ => ?_) (fun r _ => by simp only [nw_k (show 2 ≠ 3 by decide)])) i
  by_cases e : m = i
  · subst e; exact Or.inr (Or.inl (by simp [nw_at]))
  · exact Or.inl ⟨by simp [nw_at, e], by simp [nw_at, e]⟩
theorem G_mrq {n : ch_N} (h : k_G n) (i : Nat) (c t : Int32) : k_G (k_mrq n i c t) := G_nw3 (G_nw3 h (by decide) _) (by decide) _
theorem G_wfs6 {n : ch_N} (h : k_G n) (i : Nat) (c t d : Int32) : k_G (k_wfs (nw n 3 i 6 d) i c t) := by
  refine G_row h (fun m _ => ?_) (fun r _ => by unfold k_wfs k_mrq; simp only [nw_k (show 2 ≠ 3 by decide)])
  unfold k_wfs k_mrq
  by_cases e : m = i
  · subst e; exact Or.inr (Or.inl (by simp [nw_at]))
  · exact Or.inl ⟨by simp [nw_at, e], by simp [nw_at, e]⟩
theorem G_su {n : ch_N} (h : k_G n) (i : Nat) (d s : Int32) : k_G (k_su n i d s).2 := by
  unfold k_su
  split
  · split
    · exact G_wfs6 h _ _ _ _
    · exact G_cnt h _
  · dsimp only
    split
    · exact G_beg6 h _ _ _
    · exact G_beg6 (G_cnt h _) _ _ _
theorem G_bar {n : ch_N} (h : k_G n) (i : Nat) (x t : Int32) : k_G (k_bar n i x t) := by
  unfold k_bar; split
  · exact h
  · split
    · exact G_nwo h (by decide) (by decide) _
    · exact h
theorem G_crp {n : ch_N} (h : k_G n) (i : Nat) (x : Int32) : k_G (k_crp n i x) := by
  unfold k_crp; split
  · exact h
  · split
    · exact G_nwo h (by decide) (by decide) _
    · exact h
theorem G_ho {n : ch_N} (h : k_G n) (i : Nat) (t : Int32) : k_G (k_ho n i t) := by
  unfold k_ho
  refine G_cnt (G_nw2 (G_nw3 (G_nw3 (G_nw3 (G_bar ?_ _ _ _) (by decide) _) (by decide) _) (by decide) _) (by decide) _) _
  split
  · exact G_cnt h _
  · exact h
theorem G_add {n : ch_N} (h : k_G n) (i c : Nat) (v : Int32) (w : Nat) : k_G (k_add n i c v w) := by
  unfold k_add k_drp
  split
  · exact G_nwo (G_nwo h (by decide) (by decide) _) (by decide) (by decide) _
  · exact G_nwo (G_nwo (G_nao h (by decide) (by decide) _) (by decide) (by decide) _) (by decide) (by decide) _
theorem kf_G {f : Nat → ch_N → ch_N} : ∀ (N : Nat) (n : ch_N), (∀ i n, k_G n → k_G (f i n)) → k_G n → k_G (kf f N n)
  | 0, _, _, h => h
  | N + 1, n, hf, h => hf N _ (kf_G N n hf h)
theorem G_ms (i : Nat) (n : ch_N) (h : k_G n) : k_G (s_ms i n) := by
  unfold s_ms; split
  · refine kf_G _ _ (fun c m hm => ?_) h
    unfold k_ms1; split
    · exact G_add hm _ _ _ _
    · exact G_crp hm _ _
  · exact h
theorem G_6t {n : ch_N} (h : k_G n) {i : Nat} (h4 : n 3 i 4 = 1) (v : Int32) : k_G (nw n 3 i 6 v) := by
  refine G_row h (fun m _ => ?_) (fun r _ => by simp only [nw_k (show 2 ≠ 3 by decide)])
  by_cases e : m = i
  · subst e; exact Or.inr (Or.inl (by rw [nw_at, if_neg (by omega), h4]; decide))
  · exact Or.inl ⟨by simp [nw_at, e], by simp [nw_at, e]⟩
theorem G_fin (i : Nat) (n : ch_N) (h : k_G n) : k_G (s_fin i n) := by
  unfold s_fin k_fin; split
  · rename_i h4
    dsimp only; split
    · exact G_6t h h4 _
    · exact G_cnt (G_idle (G_6t h h4 _) _) _
  · exact h
theorem G_dr (i : Nat) (n : ch_N) (h : k_G n) : k_G (s_dr i n) := by
  unfold s_dr k_dr; split
  · dsimp only
    generalize (if k_avg n i (n 3 i 5) < n 0 0 8 then n 3 i 7 + 1 else 0) = v
    split
    · exact G_nw3 h (by decide) _
    · exact G_cnt (G_idle (G_nw3 h (by decide) _) _) _
  · exact h
theorem G_sv {n : ch_N} (h : k_G n) (i : Nat) (c : Int32) : k_G (k_sv n i c) := by
  unfold k_sv
  refine G_cnt ?_ _
  split
  · exact G_ho h _ _
  · exact G_beg h _ _
theorem G_svL (c : Int32) : ∀ (j : Nat) (n : ch_N), k_G n → k_G (k_svL c j n)
  | 0, _, h => h
  | j + 1, n, h => by
    unfold k_svL; split
    · split
      · exact h
      · exact G_svL c j _ (G_sv h _ _)
    · exact h
theorem G_cg (c : Nat) (n : ch_N) (h : k_G n) : k_G (s_cg c n) := by
  unfold s_cg; split
  · exact h
  · exact G_nwo h (by decide) (by decide) _
theorem G_ex (i : Nat) (n : ch_N) (h : k_G n) : k_G (s_ex i n) := by
  unfold s_ex k_ex; split
  · exact h
  · split
    · exact h
    · dsimp only; split
      · exact G_cnt (G_idle (G_nw3 (G_cnt h _) (by decide) _) _) _
      · exact G_nw3 (G_cnt h _) (by decide) _
theorem G_c1 (q : ch_N) (i N : Nat) : ∀ (j : Nat) (n : ch_N), k_G n → k_G (k_c1 q i N j n).2
  | 0, _, h => h
  | j + 1, n, h => by
    unfold k_c1; split
    · exact G_ho h _ _
    · exact G_c1 q i N j _ (G_nw2 h (by decide) _)
theorem G_c2 (q : ch_N) (i N : Nat) : ∀ (j : Nat) (n : ch_N), k_G n → k_G (k_c2 q i N j n)
  | 0, _, h => h
  | j + 1, n, h => by
    unfold k_c2; split
    · exact G_mrq h _ _ _
    · exact G_c2 q i N j _ h
theorem G_ch {n : ch_N} (h : k_G n) (q : ch_N) (i : Nat) : k_G (k_ch n q i).1 := by
  unfold k_ch
  dsimp only
  split
  · exact G_c1 _ _ _ _ _ h
  · split
    · exact G_c1 _ _ _ _ _ h
    · exact G_c2 _ _ _ _ _ (G_c1 _ _ _ _ _ h)
theorem G_dc : ∀ (N : Nat) (s : ch_N × ch_N), k_G s.1 → k_G (kf s_dc N s).1
  | 0, _, h => h
  | N + 1, s, h => by
    show k_G (s_dc N (kf s_dc N s)).1
    unfold s_dc
    split
    · exact G_ch (G_dc N s h) _ _
    · exact G_dc N s h
theorem G_mv (i : Nat) (n : ch_N) (h : k_G n) : k_G (s_mv i n) := G_nw3 (G_nw3 h (by decide) _) (by decide) _
theorem G_t1 {n : ch_N} (h : k_G n) : k_G (k_t1 n) := by
  unfold k_t1
  dsimp only
  have h1 : k_G (kf s_mv (k_mc n) n) := kf_G _ _ G_mv h
  generalize kf s_mv (k_mc n) n = a1 at h1 ⊢
  have h2 : k_G (kf s_ms (k_mc a1) a1) := kf_G _ _ G_ms h1
  generalize kf s_ms (k_mc a1) a1 = a2 at h2 ⊢
  have h3 : k_G (kf s_fin (k_mc a2) a2) := kf_G _ _ G_fin h2
  generalize kf s_fin (k_mc a2) a2 = a3 at h3 ⊢
  have h4 : k_G (kf s_dr (k_mc a3) a3) := kf_G _ _ G_dr h3
  generalize kf s_dr (k_mc a3) a3 = a4 at h4 ⊢
  exact kf_G _ _ (fun c n h => G_svL _ 12 n h) h4
theorem G_t3 {n : ch_N} (h : k_G n) : k_G (k_t3 n) := by
  unfold k_t3
  dsimp only
  have h2 : k_G (kf s_cg (k_cc n) n) := kf_G _ _ G_cg h
  generalize kf s_cg (k_cc n) n = a2 at h2 ⊢
  have h3 : k_G (kf s_ex (k_mc a2) a2) := kf_G _ _ G_ex h2
  generalize kf s_ex (k_mc a2) a2 = a3 at h3 ⊢
  exact G_nwo h3 (by decide) (by decide) _
theorem G_tick (s : ch_N × ch_N) (h : k_G s.1) : k_G (k_tick s).1 := by
  have h1 := G_t1 h
  obtain ⟨a, b⟩ := s
  unfold k_tick
  dsimp only at h1 ⊢
  generalize k_t1 a = a1 at h1 ⊢
  have h2 := G_dc (k_mc a1) (a1, b) h1
  generalize kf s_dc (k_mc a1) (a1, b) = s2 at h2 ⊢
  exact G_t3 h2
theorem G_adv : ∀ (T : Nat) (s : ch_N × ch_N), k_G s.1 → k_G (k_adv T s).1
  | 0, _, h => h
  | T + 1, s, h => by rw [k_adv_s]; exact G_tick _ (G_adv T s h)
/-- the ranking's memory is all that a tick changes beside the network -/
theorem k_ins_k (q : ch_N) (c m : Int32) {kd : Nat} (h : kd ≤ 16) : k_ins q c m kd = q kd := by
  unfold k_ins; split
  · rw [nw_k (by omega), nw_k (by omega), nw_k (by omega), na_k (by omega), na_k (by omega)]
  · rfl
theorem k_rkL_k (n : ch_N) (em : Int32) (i : Nat) {kd : Nat} (h : kd ≤ 16) : ∀ (N : Nat) (q : ch_N), k_rkL n em i N q kd = q kd
  | 0, _ => rfl
  | N + 1, q => by
    show (if 0 < k_mg n em i (nI N) then k_ins (k_rkL n em i N q) (nI N) (k_mg n em i (nI N)) else k_rkL n em i N q) kd = q kd
    split
    · rw [k_ins_k _ _ _ h]; exact k_rkL_k n em i h N q
    · exact k_rkL_k n em i h N q
theorem k_rank_k (n q : ch_N) (i : Nat) {kd : Nat} (h : kd ≤ 16) : k_rank n q i kd = q kd := by
  unfold k_rank; split
  · rw [nw_k (by omega), nw_k (by omega)]
  · rw [k_rkL_k _ _ _ h, nw_k (by omega), nw_k (by omega)]
theorem s_dc_k {kd : Nat} (h : kd ≤ 16) : ∀ (N : Nat) (s : ch_N × ch_N), (kf s_dc N s).2 kd = s.2 kd
  | 0, _ => rfl
  | N + 1, s => by
    show (s_dc N (kf s_dc N s)).2 kd = s.2 kd
    unfold s_dc
    split
    · unfold k_ch; dsimp only; rw [k_rank_k _ _ _ h]; exact s_dc_k h N s
    · exact s_dc_k h N s
theorem k_adv_k {kd : Nat} (h : kd ≤ 16) : ∀ (T : Nat) (s : ch_N × ch_N), (k_adv T s).2 kd = s.2 kd
  | 0, _ => rfl
  | T + 1, s => by
    rw [k_adv_s]
    unfold k_tick
    dsimp only
    rw [s_dc_k h]
    exact k_adv_k h T s
/-- one network holds what another holds -/
def k_ag (n m : ch_N) : Prop := (∀ j, j < 10 → n 0 0 j = m 0 0 j) ∧ (∀ c j, c < 8 → j < 9 → n 1 c j = m 1 c j) ∧ (∀ r j, r < 64 → j < 4 → n 2 r j = m 2 r j) ∧ (∀ i j, i < 12 → j < 10 → n 3 i j = m 3 i j) ∧ (∀ i, i < 12 → n 4 i = m 4 i ∧ n 5 i = m 5 i ∧ n 6 i = m 6 i) ∧ n 7 0 = m 7 0
theorem k_cph_k (n m : ch_N) {kd : Nat} (h : kd ≠ 0) : k_cph n m kd = n kd := by unfold k_cph; simp only [nw_k h]
theorem k_cp_ag (n m : ch_N) : k_ag (k_cp n m) m := by
  unfold k_cp
  refine ⟨fun j hj => ?_, fun c j hc hj => ?_, fun r j hr hj => ?_, fun i j hi hj => ?_, fun i hi => ⟨?_, ?_, ?_⟩, ?_⟩
  · rw [na_k (by decide)]
    unfold k_cpP
    rw [if_neg (by omega)]
    unfold k_cph
    rcases (show j = 0 ∨ j = 1 ∨ j = 2 ∨ j = 3 ∨ j = 4 ∨ j = 5 ∨ j = 6 ∨ j = 7 ∨ j = 8 ∨ j = 9 by omega) with rfl | rfl | rfl | rfl | rfl | rfl | rfl | rfl | rfl | rfl <;> simp [nw_at]
  · rw [na_k (by decide)]; unfold k_cpP; exact if_pos (by omega)
  · rw [na_k (by decide)]; unfold k_cpP; exact if_pos (by omega)
  · rw [na_k (by decide)]; unfold k_cpP; exact if_pos (by omega)
  · rw [na_k (by decide)]; funext j; unfold k_cpP; exact if_pos (by omega)
  · rw [na_k (by decide)]; funext j; unfold k_cpP; exact if_pos (by omega)
  · rw [na_k (by decide)]; funext j; unfold k_cpP; exact if_pos (by omega)
  · funext j; rw [na_at, if_pos ⟨rfl, rfl⟩]
theorem k_cp_c8 {n m : ch_N} (hn : k_c8 n) (hm : k_c8 m) : k_c8 (k_cp n m) := by
  intro i c hi hc
  by_cases e : i < 12
  · rw [((k_cp_ag n m).2.2.2.2.1 i e).2.1]; exact hm i c hi hc
  · have e2 : k_cp n m 5 i c = n 5 i c := by
      unfold k_cp
      rw [na_k (by decide)]
      unfold k_cpP
      rw [if_neg (by omega), k_cph_k _ _ (by decide)]
    rw [e2]; exact hn i c hi hc
theorem k_ag_mc {n m : ch_N} (h : k_ag n m) : k_mc n = k_mc m := by unfold k_mc; rw [h.1 2 (by decide)]
theorem k_ag_cc {n m : ch_N} (h : k_ag n m) : k_cc n = k_cc m := by unfold k_cc; rw [h.1 0 (by decide)]
theorem k_G_ag {n m : ch_N} (h : k_ag n m) (hm : k_G m) : k_G n :=
  ⟨fun i hi z => by rw [h.2.2.2.1 i 6 hi (by decide)]; exact hm.1 i hi (by rw [← h.2.2.2.1 i 4 hi (by decide)]; exact z), fun r hr => by rw [h.2.2.1 r 1 hr (by decide)]; exact hm.2 r hr⟩
theorem k_wf_ag {n m : ch_N} (h : k_ag n m) (hc : k_c8 n) (hm : k_wf m) : k_wf n := by
  obtain ⟨a1, a2, a3, a4, a5, a6⟩ := hm
  unfold k_wf
  rw [k_ag_mc h, k_ag_cc h, h.1 4 (by decide)]
  refine ⟨a1, a2, a3, a4, a5, fun i c hi hc' => ⟨(hc i c hi hc').1, (hc i c hi hc').2, fun hi2 => ?_⟩⟩
  rw [(h.2.2.2.2.1 i (by omega)).2.1]
  exact (a6 i c hi hc').2.2 hi2
theorem r_N_ag {n m : ch_N} {w : Nat → Int32} (h : k_ag n m) (hc : k_c8 n) (hm : r_N m w) : r_N n w := by
  obtain ⟨a1, ⟨a2, aK⟩, a3, aR, aM, aW⟩ := hm
  have hwf := k_wf_ag h hc aW
  have emc := k_ag_mc h
  have ecc := k_ag_cc h
  have h12 := aW.1
  have h8 := aW.2.1
  obtain ⟨g0, g1, g2, g3, g4, g7⟩ := h
  refine ⟨fun j hj => by rw [g0 j hj]; exact a1 j hj, ⟨fun t ht => by rw [g7]; exact a2 t ht, ?_⟩, fun c f hc hf => by rw [ecc] at hc; rw [g1 c f (by omega) hf]; exact a3 c f hc hf, ?_, fun i hi => ?_, hwf⟩
  · unfold r_K at aK ⊢
    rw [g0 3 (by decide), g0 5 (by decide), g0 0 (by decide), g0 2 (by decide), ecc]
    exact ⟨aK.1, fun c hc => by rw [g1 c 0 (by omega) (by decide), g1 c 1 (by omega) (by decide), g1 c 2 (by omega) (by decide), g1 c 3 (by omega) (by decide)]; exact aK.2 c hc⟩
  · obtain ⟨b1, b3, b4, b5, b6⟩ := aR
    refine ⟨b1, fun r hr => ?_, b4, fun a b ha hb hz => ?_, fun a b ha hb hz => ?_⟩
    · obtain ⟨a, b, z1, z2, z3, z4, z5, z6, z7, z8⟩ := b3 r hr
      refine ⟨a, b, by rw [ecc]; exact z1, by rw [ecc]; exact z2, z3, z4, ?_, ?_, ?_, ?_⟩
      · rw [g2 (8 * a + b) 0 (by omega) (by decide)]; exact z5
      · rw [g2 (8 * a + b) 1 (by omega) (by decide)]; exact z6
      · rw [g2 (8 * a + b) 2 (by omega) (by decide)]; exact z7
      · rw [g2 (8 * a + b) 3 (by omega) (by decide)]; exact z8
    · rw [g2 (8 * a + b) 0 (by omega) (by decide)] at hz; exact b5 a b ha hb hz
    · rw [g2 (8 * a + b) 0 (by omega) (by decide)] at hz
      rw [g2 (8 * a + b) 2 (by omega) (by decide), g2 (8 * a + b) 3 (by omega) (by decide)]; exact b6 a b ha hb hz
  · rw [emc] at hi
    have hi12 : i < 12 := by omega
    obtain ⟨c1, c2, c3, c4, c5, c6, c7, c8, c9, c10, c11, c12, c13, c14⟩ := aM i hi
    obtain ⟨e4, e5, e6⟩ := g4 i hi12
    have E := g3 i
    refine ⟨fun f hf => by rw [g3 i f hi12 (by omega)]; exact c1 f hf, ?_⟩
    rw [g3 i 8 hi12 (by decide), g3 i 4 hi12 (by decide), g3 i 7 hi12 (by decide), g3 i 9 hi12 (by decide), g3 i 5 hi12 (by decide), g3 i 6 hi12 (by decide), g3 i 0 hi12 (by decide), g3 i 1 hi12 (by decide), e4, e5, e6, ecc]
    refine ⟨c2, c3, c4, c5, c6, c7, c8, c9, c10, c11, fun ht c hc he => ?_, c13, c14⟩
    obtain ⟨s, hs, es⟩ := c6 ht
    have z := c12 ht c hc he
    rw [es, k_rx_in (by omega) hc] at z ⊢
    rw [g2 _ 0 (by omega) (by decide)]; exact z
/-- the text's reading leaves the mobiles alone -/
theorem l_f_k {c f : Nat} {lo hi : Int32} {p : ch_P2} {kd : Nat} (h : kd ≠ 1) : (l_f c f lo hi p).2 kd = p.2 kd := nw_k h
theorem l_h_k {j : Nat} {lo hi : Int32} {p : ch_P2} {kd : Nat} (h : kd ≠ 0) : (l_h j lo hi p).2 kd = p.2 kd := nw_k h
theorem l_cellA_k {c : Nat} {p : ch_P2} {kd : Nat} (h : kd ≠ 1) : (l_cellA c p).2 kd = p.2 kd := by unfold l_cellA; simp only [l_f_k h]
theorem l_cell_k {p : ch_P2} {kd : Nat} (h : 2 ≤ kd) : (l_cell p).2 kd = p.2 kd := by
  unfold l_cell; split
  · rfl
  · show nw (nw (l_cellA _ _).2 1 _ 8 0) 0 0 0 _ kd = p.2 kd
    rw [nw_k (by omega), nw_k (by omega), l_cellA_k (by omega)]
theorem l_set_k {p : ch_P2} {kd : Nat} (h : 1 ≤ kd) : (l_set p).2 kd = p.2 kd := by unfold l_set; simp only [l_h_k (show kd ≠ 0 by omega)]
theorem l_rel_k {p : ch_P2} {kd : Nat} (h : 3 ≤ kd) : (l_rel p).2 kd = p.2 kd := by
  unfold l_rel; split
  · rfl
  · show nw (nw (nw p.2 2 _ 1 _) 2 _ 0 1) 0 0 1 _ kd = p.2 kd
    rw [nw_k (by omega), nw_k (by omega), nw_k (by omega)]
theorem l_cl_k {p : ch_P2} {kd : Nat} (h : 3 ≤ kd) : (l_cl p).2 kd = p.2 kd := by
  unfold l_cl; split
  · exact l_cell_k (by omega)
  · split
    · exact l_rel_k h
    · split
      · exact l_set_k (by omega)
      · rfl
theorem l_nL_k {kd : Nat} (h : 3 ≤ kd) : ∀ (N : Nat) (p : ch_P2), (l_nL N p).2 kd = p.2 kd
  | 0, _ => rfl
  | N + 1, p => by
    rw [l_nL_s]; split
    · rw [l_nL_k h N]; exact l_cl_k h
    · rfl
theorem k_clear_k {n : ch_N} {kd : Nat} (h : 3 ≤ kd) (h7 : kd ≠ 7) : k_clear n kd = n kd := by
  unfold k_clear
  rw [na_k h7]
  funext i j
  unfold k_clrR
  rw [if_neg (by omega)]
  unfold k_dfl
  simp only [nw_k (show kd ≠ 0 by omega)]
theorem l_net_k {p : ch_P2} {kd : Nat} (h : 3 ≤ kd) (h7 : kd ≠ 7) : (l_net p).2 kd = p.2 kd := by
  unfold l_net; rw [l_nL_k h]; exact k_clear_k h h7
theorem t_sn_ge {q : ch_N} {lo hi : Int32} : ¬ (t_sn q lo hi).1 < lo := by
  unfold t_sn
  split
  · exact fun z => Int32.lt_irrefl z
  · split
    · exact fun z => Int32.lt_irrefl z
    · rename_i h; exact fun z => h (Or.inl z)
theorem t_see_ge {q : ch_N} {lo hi : Int32} : ¬ (t_see q lo hi).1 < lo := by
  unfold t_see
  exact t_sn_ge
theorem l_rel_2 {p : ch_P2} (h : ∀ r, r < 64 → ¬ p.2 2 r 1 < 0) : ∀ r, r < 64 → ¬ (l_rel p).2 2 r 1 < 0 := by
  intro r hr
  unfold l_rel; split
  · exact h r hr
  · dsimp only
    rw [nw_k (show 2 ≠ 0 by decide), nw_at, if_neg (by omega), nw_at]
    split
    · exact t_see_ge
    · exact h r hr
theorem l_cl_2 {p : ch_P2} (h : ∀ r, r < 64 → ¬ p.2 2 r 1 < 0) : ∀ r, r < 64 → ¬ (l_cl p).2 2 r 1 < 0 := by
  unfold l_cl; split
  · rw [l_cell_k (by decide)]; exact h
  · split
    · exact l_rel_2 h
    · split
      · rw [l_set_k (by decide)]; exact h
      · exact h
theorem l_nL_2 : ∀ (N : Nat) (p : ch_P2), (∀ r, r < 64 → ¬ p.2 2 r 1 < 0) → ∀ r, r < 64 → ¬ (l_nL N p).2 2 r 1 < 0
  | 0, _, h => h
  | N + 1, p, h => by
    rw [l_nL_s]; split
    · exact l_nL_2 N _ (l_cl_2 h)
    · exact h
theorem l_net_G {p : ch_P2} (h : k_G p.2) : k_G (l_net p).2 := by
  refine ⟨fun m hm => by rw [l_net_k (by decide) (by decide)]; exact h.1 m hm, ?_⟩
  unfold l_net
  refine l_nL_2 700 _ (fun r hr => ?_)
  show ¬ k_clear p.2 2 r 1 < 0
  unfold k_clear
  rw [na_k (by decide)]
  unfold k_clrR
  rw [if_pos (by omega)]
  decide
theorem l_net_c8 {p : ch_P2} (h : k_c8 p.2) : k_c8 (l_net p).2 := fun i c hi hc => by rw [l_net_k (by decide) (by decide)]; exact h i c hi hc
