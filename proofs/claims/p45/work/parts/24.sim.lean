/-! THE SIMULATOR: the steps of a tick over a network n (and the ranking's memory q) -/
theorem kf_0 {f : Nat → ch_N → ch_N} (hf : ∀ i n, (f i n) 0 = n 0) : ∀ (N : Nat) (n : ch_N), (kf f N n) 0 = n 0
  | 0, _ => rfl
  | N + 1, n => (hf N _).trans (kf_0 hf N n)
theorem kf_wf {f : Nat → ch_N → ch_N} : ∀ (N : Nat) (n : ch_N), (∀ i n, i < N → k_wf n → k_wf (f i n)) → k_wf n → k_wf (kf f N n)
  | 0, _, _, h => h
  | N + 1, n, hf, h => hf N _ (Nat.lt_succ_self N) (kf_wf N n (fun i n hi => hf i n (Nat.lt_succ_of_lt hi)) h)
theorem wf_row {n n' : ch_N} (h : k_wf n) (h0 : n' 0 = n 0) (h5 : ∀ i c, i < 13 → c < 8 → n' 5 i c = n 5 i c ∨ n' 5 i c = 0) : k_wf n' := by
  obtain ⟨a1, a2, a3, a4, a5, a6⟩ := h
  unfold k_wf k_mc k_cc at *
  rw [h0]
  refine ⟨a1, a2, a3, a4, a5, fun i c hi hc => ?_⟩
  rcases h5 i c hi hc with e | e
  · rw [e]; exact a6 i c hi hc
  · rw [e]; exact ⟨by decide, Nat.zero_le _, fun _ => Nat.zero_le _⟩
theorem wf_same {n n' : ch_N} (h : k_wf n) (h0 : n' 0 = n 0) (h5 : n' 5 = n 5) : k_wf n' := wf_row h h0 (fun i c _ _ => Or.inl (by rw [h5]))
theorem k_cnt_0 (n : ch_N) (j : Nat) : (k_cnt n j) 0 = n 0 := nw_k (by decide)
theorem k_cnt_wf {n : ch_N} (h : k_wf n) (j : Nat) : k_wf (k_cnt n j) := wf_same h (k_cnt_0 n j) (nw_k (by decide))
theorem k_clr_0 (n : ch_N) (i : Nat) : (k_clr n i) 0 = n 0 := by unfold k_clr; rw [na_k (by decide), na_k (by decide)]
theorem k_clr_wf {n : ch_N} (h : k_wf n) (i : Nat) : k_wf (k_clr n i) := wf_row h (k_clr_0 n i) (fun i' c _ _ => by
  unfold k_clr
  rw [na_k (by decide), na_at]
  by_cases e : 5 = 5 ∧ i' = i
  · rw [if_pos e]; exact Or.inr rfl
  · rw [if_neg e]; exact Or.inl rfl)
theorem nw3_0 (n : ch_N) (i j : Nat) (v : Int32) : (nw n 3 i j v) 0 = n 0 := nw_k (by decide)
theorem nw3_wf {n : ch_N} (h : k_wf n) (i j : Nat) (v : Int32) : k_wf (nw n 3 i j v) := wf_same h (nw_k (by decide)) (nw_k (by decide))
theorem nw2_0 (n : ch_N) (i j : Nat) (v : Int32) : (nw n 2 i j v) 0 = n 0 := nw_k (by decide)
theorem nw2_wf {n : ch_N} (h : k_wf n) (i j : Nat) (v : Int32) : k_wf (nw n 2 i j v) := wf_same h (nw_k (by decide)) (nw_k (by decide))
theorem nw1_0 (n : ch_N) (i j : Nat) (v : Int32) : (nw n 1 i j v) 0 = n 0 := nw_k (by decide)
theorem nw1_wf {n : ch_N} (h : k_wf n) (i j : Nat) (v : Int32) : k_wf (nw n 1 i j v) := wf_same h (nw_k (by decide)) (nw_k (by decide))
theorem k_idle_0 (n : ch_N) (i : Nat) : (k_idle n i) 0 = n 0 := by unfold k_idle; simp only [k_clr_0, nw3_0]
theorem k_idle_wf {n : ch_N} (h : k_wf n) (i : Nat) : k_wf (k_idle n i) := k_clr_wf (nw3_wf (nw3_wf (nw3_wf (nw3_wf (nw3_wf (nw3_wf h _ _ _) _ _ _) _ _ _) _ _ _) _ _ _) _ _ _) i
theorem k_beg_0 (n : ch_N) (i : Nat) (c : Int32) : (k_beg n i c) 0 = n 0 := by unfold k_beg; simp only [k_clr_0, nw3_0]
theorem k_beg_wf {n : ch_N} (h : k_wf n) (i : Nat) (c : Int32) : k_wf (k_beg n i c) := k_clr_wf (nw3_wf (nw3_wf (nw3_wf (nw3_wf h _ _ _) _ _ _) _ _ _) _ _ _) i
theorem k_mrq_0 (n : ch_N) (i : Nat) (c t : Int32) : (k_mrq n i c t) 0 = n 0 := by unfold k_mrq; simp only [nw3_0]
theorem k_mrq_wf {n : ch_N} (h : k_wf n) (i : Nat) (c t : Int32) : k_wf (k_mrq n i c t) := nw3_wf (nw3_wf h _ _ _) _ _ _
theorem k_bar_0 (n : ch_N) (i : Nat) (x t : Int32) : (k_bar n i x t) 0 = n 0 := by
  unfold k_bar; split
  · rfl
  · split
    · exact nw_k (by decide)
    · rfl
theorem k_bar_wf {n : ch_N} (h : k_wf n) (i : Nat) (x t : Int32) : k_wf (k_bar n i x t) := wf_same h (k_bar_0 n i x t) (by
  unfold k_bar; split
  · rfl
  · split
    · exact nw_k (by decide)
    · rfl)
theorem k_crp_0 (n : ch_N) (i : Nat) (x : Int32) : (k_crp n i x) 0 = n 0 := by
  unfold k_crp; split
  · rfl
  · split
    · exact nw_k (by decide)
    · rfl
theorem k_crp_wf {n : ch_N} (h : k_wf n) (i : Nat) (x : Int32) : k_wf (k_crp n i x) := wf_row h (k_crp_0 n i x) (fun i' c' _ _ => by
  unfold k_crp; split
  · exact Or.inl rfl
  · split
    · rw [nw_at]
      by_cases e : 5 = 5 ∧ i' = i ∧ c' = Int32.toNatClampNeg x
      · rw [if_pos e]; exact Or.inr rfl
      · rw [if_neg e]; exact Or.inl rfl
    · exact Or.inl rfl)
theorem k_ho_0 (n : ch_N) (i : Nat) (t : Int32) : (k_ho n i t) 0 = n 0 := by
  unfold k_ho
  simp only [k_cnt_0, nw2_0, nw3_0, k_bar_0]
  split
  · exact k_cnt_0 _ _
  · rfl
theorem k_ho_wf {n : ch_N} (h : k_wf n) (i : Nat) (t : Int32) : k_wf (k_ho n i t) := by
  unfold k_ho
  refine k_cnt_wf (nw2_wf (nw3_wf (nw3_wf (nw3_wf (k_bar_wf ?_ _ _ _) _ _ _) _ _ _) _ _ _) _ _ _) _
  split
  · exact k_cnt_wf h _
  · exact h
theorem k_add_0 (n : ch_N) (i c : Nat) (v : Int32) (w : Nat) : (k_add n i c v w) 0 = n 0 := by
  unfold k_add k_drp
  split
  · rw [nw_k (by decide), nw_k (by decide)]
  · rw [nw_k (by decide), nw_k (by decide), na_k (by decide)]
theorem k_add_wf {n : ch_N} (h : k_wf n) {i c : Nat} (hi : i < 13) (hc : c < 8) (v : Int32) : k_wf (k_add n i c v (Int32.toNatClampNeg (n 0 0 4))) := by
  have h0 := k_add_0 n i c v (Int32.toNatClampNeg (n 0 0 4))
  obtain ⟨a1, a2, a3, a4, a5, a6⟩ := h
  obtain ⟨b1, b2, b3⟩ := a6 i c hi hc
  unfold k_wf k_mc k_cc at *
  rw [h0]
  refine ⟨a1, a2, a3, a4, a5, fun i' c' hi' hc' => ?_⟩
  have h7 := a6 i' c' hi' hc'
  unfold k_add k_drp
  by_cases hq : Int32.toNatClampNeg (n 5 i c) < Int32.toNatClampNeg (n 0 0 4)
  · rw [if_pos hq, nw_at]
    by_cases e : 5 = 5 ∧ i' = i ∧ c' = c
    · rw [if_pos e, nI_1]
      exact ⟨nI_pos (by omega), by rw [nI_clamp (by omega)]; omega, fun hm => by rw [e.2.1] at hm; have := b3 hm; rw [nI_clamp (by omega)]; omega⟩
    · rw [if_neg e, nw_k (by decide)]; exact h7
  · rw [if_neg hq, nw_at]
    by_cases e : 5 = 5 ∧ i' = i ∧ c' = c
    · rw [if_pos e, nI_1]
      exact ⟨nI_pos (by omega), by rw [nI_clamp (by omega)]; omega, fun hm => by rw [e.2.1] at hm; have := b3 hm; rw [nI_clamp (by omega)]; omega⟩
    · rw [if_neg e, nw_k (by decide), na_k (by decide)]; exact h7
def k_mv (n : ch_N) (i : Nat) : ch_N :=
  let n1 := nw n 3 i 0 (k_max 0 (k_min 999 (n 3 i 0 + n 3 i 2)))
  nw n1 3 i 1 (k_max 0 (k_min 999 (n1 3 i 1 + n1 3 i 3)))
def k_ms1 (i c : Nat) (n : ch_N) : ch_N := if nI c = n 3 i 5 ∨ ¬ n 2 (k_rx (n 3 i 5) (nI c)) 0 = 0 then k_add n i c (k_lv n c (n 3 i 0) (n 3 i 1)) (Int32.toNatClampNeg (n 0 0 4)) else k_crp n i (nI c)
def k_ms (n : ch_N) (i : Nat) : ch_N := kf (k_ms1 i) (k_cc n) n
def k_fin (n : ch_N) (i : Nat) : ch_N :=
  let n1 := nw n 3 i 6 (n 3 i 6 - 1)
  if 0 < n1 3 i 6 then n1 else k_cnt (k_idle n1 i) 2
def k_dr (n : ch_N) (i : Nat) : ch_N :=
  let n1 := nw n 3 i 7 (if k_avg n i (n 3 i 5) < n 0 0 8 then n 3 i 7 + 1 else 0)
  if n1 3 i 7 < n1 0 0 9 then n1 else k_cnt (k_idle n1 i) 3
def k_sv (n : ch_N) (i : Nat) (c : Int32) : ch_N := k_cnt (if n 3 i 4 = 1 then k_ho n i c else k_beg n i c) 6
def k_svL (c : Int32) : Nat → ch_N → ch_N
  | 0, n => n
  | j + 1, n => if k_free n c = true then (if k_qm n c 0 = -1 then n else k_svL c j (k_sv n (k_ix 12 12 (k_qm n c 0)) c)) else n
def k_ex (n : ch_N) (i : Nat) : ch_N :=
  let n1 := nw (k_cnt n 7) 3 i 8 (-1)
  if n1 3 i 4 = 2 then k_cnt (k_idle n1 i) 4 else n1
def s_mv : Nat → ch_N → ch_N := fun i n => k_mv n i
def s_ms : Nat → ch_N → ch_N := fun i n => if n 3 i 4 = 1 then k_ms n i else n
def s_fin : Nat → ch_N → ch_N := fun i n => if n 3 i 4 = 1 then k_fin n i else n
def s_dr : Nat → ch_N → ch_N := fun i n => if n 3 i 4 = 1 then k_dr n i else n
def s_sv : Nat → ch_N → ch_N := fun c n => k_svL (nI c) 12 n
def s_cg : Nat → ch_N → ch_N := fun c n => if k_free n (nI c) = true then n else nw n 1 c 8 (n 1 c 8 + 1)
def s_ex : Nat → ch_N → ch_N := fun i n => if n 3 i 8 = -1 then n else if n 0 0 3 < n 3 i 9 + n 0 0 7 then n else k_ex n i
theorem k_mv_0 (i : Nat) (n : ch_N) : (s_mv i n) 0 = n 0 := by unfold s_mv k_mv; simp only [nw3_0]
theorem k_mv_wf (i : Nat) (n : ch_N) (h : k_wf n) : k_wf (s_mv i n) := nw3_wf (nw3_wf h _ _ _) _ _ _
theorem k_ms1_0 (i c : Nat) (n : ch_N) : (k_ms1 i c n) 0 = n 0 := by
  unfold k_ms1; split
  · exact k_add_0 _ _ _ _ _
  · exact k_crp_0 _ _ _
theorem k_ms1_wf {i c : Nat} (hi : i < 13) (hc : c < 8) (n : ch_N) (h : k_wf n) : k_wf (k_ms1 i c n) := by
  unfold k_ms1; split
  · exact k_add_wf h hi hc _
  · exact k_crp_wf h _ _
theorem s_ms_0 (i : Nat) (n : ch_N) : (s_ms i n) 0 = n 0 := by
  unfold s_ms; split
  · exact kf_0 (k_ms1_0 i) _ _
  · rfl
theorem s_ms_wf (i : Nat) (hi : i < 13) (n : ch_N) (h : k_wf n) : k_wf (s_ms i n) := by
  unfold s_ms; split
  · exact kf_wf _ _ (fun c m hc hm => k_ms1_wf hi (Nat.lt_of_lt_of_le hc h.2.1) m hm) h
  · exact h
theorem s_fin_0 (i : Nat) (n : ch_N) : (s_fin i n) 0 = n 0 := by
  unfold s_fin k_fin; split
  · dsimp only; split
    · exact nw3_0 _ _ _ _
    · rw [k_cnt_0, k_idle_0, nw3_0]
  · rfl
theorem s_fin_wf (i : Nat) (n : ch_N) (h : k_wf n) : k_wf (s_fin i n) := by
  unfold s_fin k_fin; split
  · dsimp only; split
    · exact nw3_wf h _ _ _
    · exact k_cnt_wf (k_idle_wf (nw3_wf h _ _ _) _) _
  · exact h
theorem s_dr_0 (i : Nat) (n : ch_N) : (s_dr i n) 0 = n 0 := by
  unfold s_dr k_dr; split
  · dsimp only
    generalize (if k_avg n i (n 3 i 5) < n 0 0 8 then n 3 i 7 + 1 else 0) = v
    split
    · exact nw3_0 _ _ _ _
    · rw [k_cnt_0, k_idle_0, nw3_0]
  · rfl
theorem s_dr_wf (i : Nat) (n : ch_N) (h : k_wf n) : k_wf (s_dr i n) := by
  unfold s_dr k_dr; split
  · dsimp only
    generalize (if k_avg n i (n 3 i 5) < n 0 0 8 then n 3 i 7 + 1 else 0) = v
    split
    · exact nw3_wf h _ _ _
    · exact k_cnt_wf (k_idle_wf (nw3_wf h _ _ _) _) _
  · exact h
theorem k_sv_0 (n : ch_N) (i : Nat) (c : Int32) : (k_sv n i c) 0 = n 0 := by
  unfold k_sv; rw [k_cnt_0]; split
  · exact k_ho_0 _ _ _
  · exact k_beg_0 _ _ _
theorem k_sv_wf {n : ch_N} (h : k_wf n) (i : Nat) (c : Int32) : k_wf (k_sv n i c) := by
  unfold k_sv
  refine k_cnt_wf ?_ _
  split
  · exact k_ho_wf h _ _
  · exact k_beg_wf h _ _
theorem k_svL_0 (c : Int32) : ∀ (j : Nat) (n : ch_N), (k_svL c j n) 0 = n 0
  | 0, _ => rfl
  | j + 1, n => by
    unfold k_svL; split
    · split
      · rfl
      · rw [k_svL_0 c j, k_sv_0]
    · rfl
theorem k_svL_wf (c : Int32) : ∀ (j : Nat) (n : ch_N), k_wf n → k_wf (k_svL c j n)
  | 0, _, h => h
  | j + 1, n, h => by
    unfold k_svL; split
    · split
      · exact h
      · exact k_svL_wf c j _ (k_sv_wf h _ _)
    · exact h
theorem s_cg_0 (c : Nat) (n : ch_N) : (s_cg c n) 0 = n 0 := by
  unfold s_cg; split
  · rfl
  · exact nw1_0 _ _ _ _
theorem s_cg_wf (c : Nat) (n : ch_N) (h : k_wf n) : k_wf (s_cg c n) := by
  unfold s_cg; split
  · exact h
  · exact nw1_wf h _ _ _
theorem s_ex_0 (i : Nat) (n : ch_N) : (s_ex i n) 0 = n 0 := by
  unfold s_ex k_ex; split
  · rfl
  · split
    · rfl
    · dsimp only; split
      · rw [k_cnt_0, k_idle_0, nw3_0, k_cnt_0]
      · rw [nw3_0, k_cnt_0]
theorem s_ex_wf (i : Nat) (n : ch_N) (h : k_wf n) : k_wf (s_ex i n) := by
  unfold s_ex k_ex; split
  · exact h
  · split
    · exact h
    · dsimp only; split
      · exact k_cnt_wf (k_idle_wf (nw3_wf (k_cnt_wf h _) _ _ _) _) _
      · exact nw3_wf (k_cnt_wf h _) _ _ _
theorem mem2 {μ : ch_M} {k : Nat} (h : k ≠ 15) (a b a' : ch_N) : up (up (up μ k a) 15 b) k a' = up (up μ k a') 15 b := by
  funext x; unfold up; by_cases h1 : x = k <;> by_cases h2 : x = 15 <;> simp_all
theorem mem3 {μ : ch_M} {k : Nat} (h : k ≠ 15) (a b : ch_N) : (up (up μ k a) 15 b) k = a := by rw [up_n h, up_s]
theorem mem4 {μ : ch_M} {k : Nat} (a b b' : ch_N) : up (up (up μ k a) 15 b) 15 b' = up (up μ k a) 15 b' := up_up _ _ _ _
set_option maxHeartbeats 100000 in
theorem c_X8_moveMobiles {l : Launch} {E : ch_E} {S : ch_S} {μ : ch_M} {k : Nat} (hs : ch_Std E S) (hk : k < 15) (hw : k_wf (μ k)) : ch_C E l yX8_moveMobiles cX8_moveMobiles 4 none 2 0 0 S μ [.ref (S.1 15 16 0), .ref (S.1 k 0 0)] (ch_F none S (up μ k (kf s_mv (k_mc (μ k)) (μ k)))) := by
  refine ch_enter rfl rfl ?_
  intro X hl0 h hG hR hnm
  have h : ch_H X E RX8 cX8_moveMobiles 4 := h
  show ch_W X E 4 S μ 0 0 0 [(0, .ref (S.1 15 16 0)), (1, .ref (S.1 k 0 0))] []
  refine ca_iconst h dX8_moveMobiles_0 ik_0 ?_
  refine ca_istore_n h dX8_moveMobiles_1 rfl ?_
  have loop_2 : ∀ (jj n : Nat), n + jj = k_mc (μ k) → ∀ (x2 : Int32) (e2 : x2 = nI n) (mm : ch_M) (em : mm = up μ k (kf s_mv n (μ k))), ch_W X E 4 S mm 0 0 2 [(0, .ref (S.1 15 16 0)), (1, .ref (S.1 k 0 0)), (2, .int x2)] [] := by
    intro jj
    induction jj with
    | zero =>
      intro n hn x2 e2 mm em
      have hn : n = k_mc (μ k) := by omega
      subst e2 em
      have hb : (kf s_mv n (μ k)) 0 = μ k 0 := kf_0 k_mv_0 n _
      have hwn : k_wf (kf s_mv n (μ k)) := kf_wf n _ (fun i m hi hm => k_mv_wf i m hm) hw
      refine ca_iload_n h dX8_moveMobiles_2 rfl ?_
      refine ca_aload_nr h dX8_moveMobiles_3 rfl ?_
      refine gi_X8_61 h (hs.1 _ _ _ (by show _ ∧ _; exact ⟨by first | assumption | rfl | omega, by first | assumption | rfl | omega⟩)) dX8_moveMobiles_4 ?_
      refine ca_icmp_ge (tgt := 68) h dX8_moveMobiles_7 (by decide) (fun c_7 => ?_) (fun c_7 => ?_)
      ·
        refine ca_vreturn h hR dX8_moveMobiles_68 ?_
        exact ⟨rfl, rfl, by rw [hn]⟩
      · exact absurd c_7 (by rw [up_s, hb]; exact lt_no rfl hn)
    | succ jj ih_2 =>
      intro n hn x2 e2 mm em
      have hn1 : n < k_mc (μ k) := by omega
      subst e2 em
      have hn12 : n < 12 := Nat.lt_of_lt_of_le hn1 hw.1
      have hb : (kf s_mv n (μ k)) 0 = μ k 0 := kf_0 k_mv_0 n _
      have hwn : k_wf (kf s_mv n (μ k)) := kf_wf n _ (fun i m hi hm => k_mv_wf i m hm) hw
      refine ca_iload_n h dX8_moveMobiles_2 rfl ?_
      refine ca_aload_nr h dX8_moveMobiles_3 rfl ?_
      refine gi_X8_61 h (hs.1 _ _ _ (by show _ ∧ _; exact ⟨by first | assumption | rfl | omega, by first | assumption | rfl | omega⟩)) dX8_moveMobiles_4 ?_
      refine ca_icmp_ge (tgt := 68) h dX8_moveMobiles_7 (by decide) (fun c_7 => ?_) (fun c_7 => ?_)
      · exact absurd (by rw [up_s, hb]; exact lt_yes rfl hn1) c_7
      ·
        refine ca_aload_nr h dX8_moveMobiles_10 rfl ?_
        refine ca_iload_n h dX8_moveMobiles_11 rfl ?_
        refine ca_vr h hG ml_X8_49 (c_X3_mobileJ hs hk (by omega)) (ci := 3) rfl rfl rfl (hs.1 _ _ _ (by show _ ∧ _; exact ⟨by first | assumption | rfl | omega, by first | assumption | rfl | omega⟩)) rfl rfl rfl rfl ⟨Nat.le_refl _, Nat.le_refl _⟩ rfl dX8_moveMobiles_12 ?_
        refine ca_astore_n h dX8_moveMobiles_15 rfl ?_
        refine ca_aload_nr h dX8_moveMobiles_16 rfl ?_
        refine ca_iconst h dX8_moveMobiles_17 ik_0 ?_
        refine ca_sipush h dX8_moveMobiles_18 sk_999 ?_
        refine ca_aload_nr h dX8_moveMobiles_21 rfl ?_
        refine gi_X8_64 h (hs.1 _ _ _ (by show _ ∧ _; exact ⟨by first | assumption | rfl | omega, by first | assumption | rfl | omega⟩)) dX8_moveMobiles_22 ?_
        refine ca_aload_nr h dX8_moveMobiles_25 rfl ?_
        refine gi_X8_69 h (hs.1 _ _ _ (by show _ ∧ _; exact ⟨by first | assumption | rfl | omega, by first | assumption | rfl | omega⟩)) dX8_moveMobiles_26 ?_
        refine ca_iadd h dX8_moveMobiles_29 ?_
        refine ca_mmin h hG rfl rfl rfl kw_537 kw_517 kw_15 kw_518 (Nat.le_of_ble_eq_true rfl) dX8_moveMobiles_30 ?_
        refine ca_mmax h hG rfl rfl rfl kw_538 kw_539 kw_15 kw_540 (Nat.le_of_ble_eq_true rfl) dX8_moveMobiles_33 ?_
        refine pi_X8_64 h (hs.1 _ _ _ (by show _ ∧ _; exact ⟨by first | assumption | rfl | omega, by first | assumption | rfl | omega⟩)) dX8_moveMobiles_36 ?_
        refine ca_aload_nr h dX8_moveMobiles_39 rfl ?_
        refine ca_iconst h dX8_moveMobiles_40 ik_0 ?_
        refine ca_sipush h dX8_moveMobiles_41 sk_999 ?_
        refine ca_aload_nr h dX8_moveMobiles_44 rfl ?_
        refine gi_X8_81 h (hs.1 _ _ _ (by show _ ∧ _; exact ⟨by first | assumption | rfl | omega, by first | assumption | rfl | omega⟩)) dX8_moveMobiles_45 ?_
        refine ca_aload_nr h dX8_moveMobiles_48 rfl ?_
        refine gi_X8_84 h (hs.1 _ _ _ (by show _ ∧ _; exact ⟨by first | assumption | rfl | omega, by first | assumption | rfl | omega⟩)) dX8_moveMobiles_49 ?_
        refine ca_iadd h dX8_moveMobiles_52 ?_
        refine ca_mmin h hG rfl rfl rfl kw_537 kw_517 kw_15 kw_518 (Nat.le_of_ble_eq_true rfl) dX8_moveMobiles_53 ?_
        refine ca_mmax h hG rfl rfl rfl kw_538 kw_539 kw_15 kw_540 (Nat.le_of_ble_eq_true rfl) dX8_moveMobiles_56 ?_
        refine pi_X8_81 h (hs.1 _ _ _ (by show _ ∧ _; exact ⟨by first | assumption | rfl | omega, by first | assumption | rfl | omega⟩)) dX8_moveMobiles_59 ?_
        refine ca_iinc h dX8_moveMobiles_62 rfl ik_1 rfl ?_
        refine ca_goto (tgt := 2) h dX8_moveMobiles_65 (by decide) ?_
        refine ca_pick [2, 3, 0] rfl ?_
        exact ih_2 (n + 1) (by omega) _ (nI_1 n) _ (by simp only [ch_st_nw, up_s, up_up]; rfl)
  refine ca_pick [1, 2, 0] rfl ?_
  exact loop_2 _ 0 (Nat.zero_add _) _ rfl _ (by rw [show kf s_mv 0 (μ k) = μ k from rfl, up_id])
set_option maxHeartbeats 100000 in
theorem c_X8_measure {l : Launch} {E : ch_E} {S : ch_S} {μ : ch_M} {k i : Nat} (hs : ch_Std E S) (hk : k < 15) (hw : k_wf (μ k)) (hi : i < 12) : ch_C E l yX8_measure cX8_measure 5 none 3 0 0 S μ [.ref (S.1 15 16 0), .ref (S.1 k 0 0), .ref (S.1 k 3 i)] (ch_F none S (up μ k (k_ms (μ k) i))) := by
  refine ch_enter rfl rfl ?_
  intro X hl0 h hG hR hnm
  have h : ch_H X E RX8 cX8_measure 5 := h
  show ch_W X E 5 S μ 0 0 0 [(0, .ref (S.1 15 16 0)), (1, .ref (S.1 k 0 0)), (2, .ref (S.1 k 3 i))] []
  refine ca_iconst h dX8_measure_0 ik_0 ?_
  refine ca_istore_n h dX8_measure_1 rfl ?_
  have loop_2 : ∀ (jj n : Nat), n + jj = k_cc (μ k) → ∀ (x3 : Int32) (e3 : x3 = nI n) (mm : ch_M) (em : mm = up μ k (kf (k_ms1 i) n (μ k))), ch_W X E 5 S mm 0 0 2 [(0, .ref (S.1 15 16 0)), (1, .ref (S.1 k 0 0)), (2, .ref (S.1 k 3 i)), (3, .int x3)] [] := by
    intro jj
    induction jj with
    | zero =>
      intro n hn x3 e3 mm em
      have hn : n = k_cc (μ k) := by omega
      subst e3 em
      have hb : (kf (k_ms1 i) n (μ k)) 0 = μ k 0 := kf_0 (k_ms1_0 i) n _
      refine ca_iload_n h dX8_measure_2 rfl ?_
      refine ca_aload_nr h dX8_measure_3 rfl ?_
      refine gi_X8_93 h (hs.1 _ _ _ (by show _ ∧ _; exact ⟨by first | assumption | rfl | omega, by first | assumption | rfl | omega⟩)) dX8_measure_4 ?_
      refine ca_icmp_ge (tgt := 76) h dX8_measure_7 (by decide) (fun c_7 => ?_) (fun c_7 => ?_)
      ·
        refine ca_vreturn h hR dX8_measure_76 ?_
        exact ⟨rfl, rfl, by rw [hn]; rfl⟩
      · exact absurd c_7 (by rw [up_s, hb]; exact lt_no rfl hn)
    | succ jj ih_2 =>
      intro n hn x3 e3 mm em
      have hn1 : n < k_cc (μ k) := by omega
      subst e3 em
      have hn8 : n < 8 := Nat.lt_of_lt_of_le hn1 hw.2.1
      have hb : (kf (k_ms1 i) n (μ k)) 0 = μ k 0 := kf_0 (k_ms1_0 i) n _
      have hwn : k_wf (kf (k_ms1 i) n (μ k)) := kf_wf n _ (fun c m hc hm => k_ms1_wf (by omega) (by omega) m hm) hw
      refine ca_iload_n h dX8_measure_2 rfl ?_
      refine ca_aload_nr h dX8_measure_3 rfl ?_
      refine gi_X8_93 h (hs.1 _ _ _ (by show _ ∧ _; exact ⟨by first | assumption | rfl | omega, by first | assumption | rfl | omega⟩)) dX8_measure_4 ?_
      refine ca_icmp_ge (tgt := 76) h dX8_measure_7 (by decide) (fun c_7 => ?_) (fun c_7 => ?_)
      · exact absurd (by rw [up_s, hb]; exact lt_yes rfl hn1) c_7
      ·
        refine ca_iload_n h dX8_measure_10 rfl ?_
        refine ca_aload_nr h dX8_measure_11 rfl ?_
        refine gi_X8_96 h (hs.1 _ _ _ (by show _ ∧ _; exact ⟨by first | assumption | rfl | omega, by first | assumption | rfl | omega⟩)) dX8_measure_12 ?_
        refine ca_icmp_eq (tgt := 33) h dX8_measure_15 (by decide) (fun c_15 => ?_) (fun c_15 => ?_)
        ·
          refine ca_aload_nr h dX8_measure_33 rfl ?_
          refine ca_iload_n h dX8_measure_34 rfl ?_
          refine ca_vr h hG ml_X8_109 (c_X3_cellJ hs hk hn8) (ci := 3) rfl rfl rfl (hs.1 _ _ _ (by show _ ∧ _; exact ⟨by first | assumption | rfl | omega, by first | assumption | rfl | omega⟩)) rfl rfl rfl rfl ⟨Nat.le_refl _, Nat.le_refl _⟩ rfl dX8_measure_35 ?_
          refine ca_aload_nr h dX8_measure_38 rfl ?_
          refine gi_X8_64 h (hs.1 _ _ _ (by show _ ∧ _; exact ⟨by first | assumption | rfl | omega, by first | assumption | rfl | omega⟩)) dX8_measure_39 ?_
          refine ca_aload_nr h dX8_measure_42 rfl ?_
          refine gi_X8_81 h (hs.1 _ _ _ (by show _ ∧ _; exact ⟨by first | assumption | rfl | omega, by first | assumption | rfl | omega⟩)) dX8_measure_43 ?_
          refine ca_vi h hG ml_X8_113 (c_X0_levelAt hs hk (by omega)) (ci := 0) rfl rfl rfl (hs.1 _ _ _ (by show _ ∧ _; exact ⟨by first | assumption | rfl | omega, by first | assumption | rfl | omega⟩)) rfl rfl rfl rfl ⟨Nat.le_refl _, Nat.le_refl _⟩ rfl dX8_measure_46 ?_
          refine ca_istore h dX8_measure_49 rfl ?_
          refine ca_aload_nr h dX8_measure_51 rfl ?_
          refine ca_iload_n h dX8_measure_52 rfl ?_
          refine ca_iload h dX8_measure_53 rfl ?_
          refine ca_aload_nr h dX8_measure_55 rfl ?_
          refine gi_X8_118 h (hs.1 _ _ _ (by show _ ∧ _; exact ⟨by first | assumption | rfl | omega, by first | assumption | rfl | omega⟩)) dX8_measure_56 ?_
          refine ca_top (show _ = nI (Int32.toNatClampNeg ((kf (k_ms1 i) n (μ k)) 0 0 4)) by rw [up_s, nI_cn hwn.2.2.1]) ?_
          refine ca_vv h hG ml_X8_121 (c_X2_addReport (c := n) (w := Int32.toNatClampNeg ((kf (k_ms1 i) n (μ k)) 0 0 4)) hs hk (by omega) (by omega) (by rw [up_s]; exact ⟨(hwn.2.2.2.2.2 i n (by omega) (by omega)).1, (hwn.2.2.2.2.2 i n (by omega) (by omega)).2.1⟩) ⟨hwn.2.2.2.1, hwn.2.2.2.2.1⟩) (ci := 2) rfl rfl rfl (hs.1 _ _ _ (by show _ ∧ _; exact ⟨by first | assumption | rfl | omega, by first | assumption | rfl | omega⟩)) rfl rfl rfl rfl ⟨Nat.le_refl _, Nat.le_refl _⟩ rfl dX8_measure_59 ?_
          refine ca_goto (tgt := 70) h dX8_measure_62 (by decide) ?_
          refine ca_iinc h dX8_measure_70 rfl ik_1 rfl ?_
          refine ca_goto (tgt := 2) h dX8_measure_73 (by decide) ?_
          refine ca_pick [2, 3, 4, 0] rfl ?_
          have e9 : kf (k_ms1 i) (n + 1) (μ k) = _ := if_pos (Or.inl (by have c9 := c_15; rw [up_s] at c9; exact c9))
          exact ih_2 (n + 1) (by omega) _ (nI_1 n) _ (by simp only [up_s, up_up]; rw [e9])
        ·
          refine ca_aload_nr h dX8_measure_18 rfl ?_
          refine ca_aload_nr h dX8_measure_19 rfl ?_
          refine gi_X8_96 h (hs.1 _ _ _ (by show _ ∧ _; exact ⟨by first | assumption | rfl | omega, by first | assumption | rfl | omega⟩)) dX8_measure_20 ?_
          refine ca_iload_n h dX8_measure_23 rfl ?_
          refine ca_vr h hG ml_X8_99 (c_X3_relationAt hs (by assumption)) (ci := 3) rfl rfl rfl (hs.1 _ _ _ (by show _ ∧ _; exact ⟨by first | assumption | rfl | omega, by first | assumption | rfl | omega⟩)) rfl rfl rfl rfl ⟨Nat.le_refl _, Nat.le_refl _⟩ rfl dX8_measure_24 ?_
          refine gi_X8_103 h (hs.1 _ _ _ (vR hk (k_rx_le _ _))) dX8_measure_27 ?_
          refine ca_if_eq (tgt := 65) h dX8_measure_30 (by decide) (fun c_30 => ?_) (fun c_30 => ?_)
          ·
            refine ca_aload_nr h dX8_measure_65 rfl ?_
            refine ca_iload_n h dX8_measure_66 rfl ?_
            refine ca_vv h hG ml_X8_125 (c_X2_clearReports hs hk (by omega)) (ci := 2) rfl rfl rfl (hs.1 _ _ _ (by show _ ∧ _; exact ⟨by first | assumption | rfl | omega, by first | assumption | rfl | omega⟩)) rfl rfl rfl rfl ⟨Nat.le_refl _, Nat.le_refl _⟩ rfl dX8_measure_67 ?_
            refine ca_iinc h dX8_measure_70 rfl ik_1 rfl ?_
            refine ca_goto (tgt := 2) h dX8_measure_73 (by decide) ?_
            refine ca_pick [1, 2, 3, 0] rfl ?_
            have e9 : kf (k_ms1 i) (n + 1) (μ k) = _ := if_neg (fun z => z.elim (fun z => c_15 (by rw [up_s]; exact z)) (fun z => z (by have c9 := c_30; rw [up_s] at c9; exact c9)))
            exact ih_2 (n + 1) (by omega) _ (nI_1 n) _ (by simp only [up_s, up_up]; rw [e9])
          ·
            refine ca_aload_nr h dX8_measure_33 rfl ?_
            refine ca_iload_n h dX8_measure_34 rfl ?_
            refine ca_vr h hG ml_X8_109 (c_X3_cellJ hs hk hn8) (ci := 3) rfl rfl rfl (hs.1 _ _ _ (by show _ ∧ _; exact ⟨by first | assumption | rfl | omega, by first | assumption | rfl | omega⟩)) rfl rfl rfl rfl ⟨Nat.le_refl _, Nat.le_refl _⟩ rfl dX8_measure_35 ?_
            refine ca_aload_nr h dX8_measure_38 rfl ?_
            refine gi_X8_64 h (hs.1 _ _ _ (by show _ ∧ _; exact ⟨by first | assumption | rfl | omega, by first | assumption | rfl | omega⟩)) dX8_measure_39 ?_
            refine ca_aload_nr h dX8_measure_42 rfl ?_
            refine gi_X8_81 h (hs.1 _ _ _ (by show _ ∧ _; exact ⟨by first | assumption | rfl | omega, by first | assumption | rfl | omega⟩)) dX8_measure_43 ?_
            refine ca_vi h hG ml_X8_113 (c_X0_levelAt hs hk (by omega)) (ci := 0) rfl rfl rfl (hs.1 _ _ _ (by show _ ∧ _; exact ⟨by first | assumption | rfl | omega, by first | assumption | rfl | omega⟩)) rfl rfl rfl rfl ⟨Nat.le_refl _, Nat.le_refl _⟩ rfl dX8_measure_46 ?_
            refine ca_istore h dX8_measure_49 rfl ?_
            refine ca_aload_nr h dX8_measure_51 rfl ?_
            refine ca_iload_n h dX8_measure_52 rfl ?_
            refine ca_iload h dX8_measure_53 rfl ?_
            refine ca_aload_nr h dX8_measure_55 rfl ?_
            refine gi_X8_118 h (hs.1 _ _ _ (by show _ ∧ _; exact ⟨by first | assumption | rfl | omega, by first | assumption | rfl | omega⟩)) dX8_measure_56 ?_
            refine ca_top (show _ = nI (Int32.toNatClampNeg ((kf (k_ms1 i) n (μ k)) 0 0 4)) by rw [up_s, nI_cn hwn.2.2.1]) ?_
            refine ca_vv h hG ml_X8_121 (c_X2_addReport (c := n) (w := Int32.toNatClampNeg ((kf (k_ms1 i) n (μ k)) 0 0 4)) hs hk (by omega) (by omega) (by rw [up_s]; exact ⟨(hwn.2.2.2.2.2 i n (by omega) (by omega)).1, (hwn.2.2.2.2.2 i n (by omega) (by omega)).2.1⟩) ⟨hwn.2.2.2.1, hwn.2.2.2.2.1⟩) (ci := 2) rfl rfl rfl (hs.1 _ _ _ (by show _ ∧ _; exact ⟨by first | assumption | rfl | omega, by first | assumption | rfl | omega⟩)) rfl rfl rfl rfl ⟨Nat.le_refl _, Nat.le_refl _⟩ rfl dX8_measure_59 ?_
            refine ca_goto (tgt := 70) h dX8_measure_62 (by decide) ?_
            refine ca_iinc h dX8_measure_70 rfl ik_1 rfl ?_
            refine ca_goto (tgt := 2) h dX8_measure_73 (by decide) ?_
            refine ca_pick [2, 3, 4, 0] rfl ?_
            have e9 : kf (k_ms1 i) (n + 1) (μ k) = _ := if_pos (Or.inr (by have c9 := c_30; rw [up_s] at c9; exact c9))
            exact ih_2 (n + 1) (by omega) _ (nI_1 n) _ (by simp only [up_s, up_up]; rw [e9])
  refine ca_pick [1, 2, 3, 0] rfl ?_
  exact loop_2 _ 0 (Nat.zero_add _) _ rfl _ (by rw [show kf (k_ms1 i) 0 (μ k) = μ k from rfl, up_id])
set_option maxHeartbeats 100000 in
theorem c_X8_measureLevels {l : Launch} {E : ch_E} {S : ch_S} {μ : ch_M} {k : Nat} (hs : ch_Std E S) (hk : k < 15) (hw : k_wf (μ k)) : ch_C E l yX8_measureLevels cX8_measureLevels 4 none 4 0 0 S μ [.ref (S.1 15 16 0), .ref (S.1 k 0 0)] (ch_F none S (up μ k (kf s_ms (k_mc (μ k)) (μ k)))) := by
  refine ch_enter rfl rfl ?_
  intro X hl0 h hG hR hnm
  have h : ch_H X E RX8 cX8_measureLevels 4 := h
  show ch_W X E 4 S μ 0 0 0 [(0, .ref (S.1 15 16 0)), (1, .ref (S.1 k 0 0))] []
  refine ca_iconst h dX8_measureLevels_0 ik_0 ?_
  refine ca_istore_n h dX8_measureLevels_1 rfl ?_
  have loop_2 : ∀ (jj n : Nat), n + jj = k_mc (μ k) → ∀ (x2 : Int32) (e2 : x2 = nI n) (mm : ch_M) (em : mm = up μ k (kf s_ms n (μ k))), ch_W X E 4 S mm 0 0 2 [(0, .ref (S.1 15 16 0)), (1, .ref (S.1 k 0 0)), (2, .int x2)] [] := by
    intro jj
    induction jj with
    | zero =>
      intro n hn x2 e2 mm em
      have hn : n = k_mc (μ k) := by omega
      subst e2 em
      have hb : (kf s_ms n (μ k)) 0 = μ k 0 := kf_0 s_ms_0 n _
      have hwn : k_wf (kf s_ms n (μ k)) := kf_wf n _ (fun i m hi hm => s_ms_wf i (by have := hw.1; omega) m hm) hw
      refine ca_iload_n h dX8_measureLevels_2 rfl ?_
      refine ca_aload_nr h dX8_measureLevels_3 rfl ?_
      refine gi_X8_61 h (hs.1 _ _ _ (by show _ ∧ _; exact ⟨by first | assumption | rfl | omega, by first | assumption | rfl | omega⟩)) dX8_measureLevels_4 ?_
      refine ca_icmp_ge (tgt := 36) h dX8_measureLevels_7 (by decide) (fun c_7 => ?_) (fun c_7 => ?_)
      ·
        refine ca_vreturn h hR dX8_measureLevels_36 ?_
        exact ⟨rfl, rfl, by rw [hn]⟩
      · exact absurd c_7 (by rw [up_s, hb]; exact lt_no rfl hn)
    | succ jj ih_2 =>
      intro n hn x2 e2 mm em
      have hn1 : n < k_mc (μ k) := by omega
      subst e2 em
      have hn12 : n < 12 := Nat.lt_of_lt_of_le hn1 hw.1
      have hb : (kf s_ms n (μ k)) 0 = μ k 0 := kf_0 s_ms_0 n _
      have hwn : k_wf (kf s_ms n (μ k)) := kf_wf n _ (fun i m hi hm => s_ms_wf i (by have := hw.1; omega) m hm) hw
      refine ca_iload_n h dX8_measureLevels_2 rfl ?_
      refine ca_aload_nr h dX8_measureLevels_3 rfl ?_
      refine gi_X8_61 h (hs.1 _ _ _ (by show _ ∧ _; exact ⟨by first | assumption | rfl | omega, by first | assumption | rfl | omega⟩)) dX8_measureLevels_4 ?_
      refine ca_icmp_ge (tgt := 36) h dX8_measureLevels_7 (by decide) (fun c_7 => ?_) (fun c_7 => ?_)
      · exact absurd (by rw [up_s, hb]; exact lt_yes rfl hn1) c_7
      ·
        refine ca_aload_nr h dX8_measureLevels_10 rfl ?_
        refine ca_iload_n h dX8_measureLevels_11 rfl ?_
        refine ca_vr h hG ml_X8_49 (c_X3_mobileJ hs hk (by omega)) (ci := 3) rfl rfl rfl (hs.1 _ _ _ (by show _ ∧ _; exact ⟨by first | assumption | rfl | omega, by first | assumption | rfl | omega⟩)) rfl rfl rfl rfl ⟨Nat.le_refl _, Nat.le_refl _⟩ rfl dX8_measureLevels_12 ?_
        refine ca_astore_n h dX8_measureLevels_15 rfl ?_
        refine ca_aload_nr h dX8_measureLevels_16 rfl ?_
        refine gi_X8_87 h (hs.1 _ _ _ (by show _ ∧ _; exact ⟨by first | assumption | rfl | omega, by first | assumption | rfl | omega⟩)) dX8_measureLevels_17 ?_
        refine ca_iconst h dX8_measureLevels_20 ik_1 ?_
        refine ca_icmp_ne (tgt := 30) h dX8_measureLevels_21 (by decide) (fun c_21 => ?_) (fun c_21 => ?_)
        ·
          refine ca_iinc h dX8_measureLevels_30 rfl ik_1 rfl ?_
          refine ca_goto (tgt := 2) h dX8_measureLevels_33 (by decide) ?_
          refine ca_pick [2, 3, 0] rfl ?_
          have e9 : kf s_ms (n + 1) (μ k) = _ := if_neg (by have c9 := c_21; rw [up_s] at c9; exact c9)
          exact ih_2 (n + 1) (by omega) _ (nI_1 n) _ (by rw [e9])
        ·
          refine ca_aload_nr h dX8_measureLevels_24 rfl ?_
          refine ca_aload_nr h dX8_measureLevels_25 rfl ?_
          refine ca_aload_nr h dX8_measureLevels_26 rfl ?_
          refine ca_vv h hG ml_X8_90 (c_X8_measure hs hk (by rw [up_s]; exact hwn) (by omega)) (ci := 8) rfl rfl rfl (hs.1 _ _ _ (by show _ ∧ _; exact ⟨by first | assumption | rfl | omega, by first | assumption | rfl | omega⟩)) rfl rfl rfl rfl ⟨Nat.le_refl _, Nat.le_refl _⟩ rfl dX8_measureLevels_27 ?_
          refine ca_iinc h dX8_measureLevels_30 rfl ik_1 rfl ?_
          refine ca_goto (tgt := 2) h dX8_measureLevels_33 (by decide) ?_
          refine ca_pick [2, 3, 0] rfl ?_
          have e9 : kf s_ms (n + 1) (μ k) = _ := if_pos (by have c9 := c_21; rw [up_s] at c9; exact c9)
          exact ih_2 (n + 1) (by omega) _ (nI_1 n) _ (by rw [e9] <;> simp only [up_s, up_up])
  refine ca_pick [1, 2, 0] rfl ?_
  exact loop_2 _ 0 (Nat.zero_add _) _ rfl _ (by rw [show kf s_ms 0 (μ k) = μ k from rfl, up_id])
set_option maxHeartbeats 100000 in
theorem c_X8_completeCalls {l : Launch} {E : ch_E} {S : ch_S} {μ : ch_M} {k : Nat} (hs : ch_Std E S) (hk : k < 15) (hw : k_wf (μ k)) : ch_C E l yX8_completeCalls cX8_completeCalls 4 none 4 0 0 S μ [.ref (S.1 15 16 0), .ref (S.1 k 0 0)] (ch_F none S (up μ k (kf s_fin (k_mc (μ k)) (μ k)))) := by
  refine ch_enter rfl rfl ?_
  intro X hl0 h hG hR hnm
  have h : ch_H X E RX8 cX8_completeCalls 4 := h
  show ch_W X E 4 S μ 0 0 0 [(0, .ref (S.1 15 16 0)), (1, .ref (S.1 k 0 0))] []
  refine ca_iconst h dX8_completeCalls_0 ik_0 ?_
  refine ca_istore_n h dX8_completeCalls_1 rfl ?_
  have loop_2 : ∀ (jj n : Nat), n + jj = k_mc (μ k) → ∀ (x2 : Int32) (e2 : x2 = nI n) (mm : ch_M) (em : mm = up μ k (kf s_fin n (μ k))), ch_W X E 4 S mm 0 0 2 [(0, .ref (S.1 15 16 0)), (1, .ref (S.1 k 0 0)), (2, .int x2)] [] := by
    intro jj
    induction jj with
    | zero =>
      intro n hn x2 e2 mm em
      have hn : n = k_mc (μ k) := by omega
      subst e2 em
      have hb : (kf s_fin n (μ k)) 0 = μ k 0 := kf_0 s_fin_0 n _
      have hwn : k_wf (kf s_fin n (μ k)) := kf_wf n _ (fun i m hi hm => s_fin_wf i m hm) hw
      refine ca_iload_n h dX8_completeCalls_2 rfl ?_
      refine ca_aload_nr h dX8_completeCalls_3 rfl ?_
      refine gi_X8_61 h (hs.1 _ _ _ (by show _ ∧ _; exact ⟨by first | assumption | rfl | omega, by first | assumption | rfl | omega⟩)) dX8_completeCalls_4 ?_
      refine ca_icmp_ge (tgt := 56) h dX8_completeCalls_7 (by decide) (fun c_7 => ?_) (fun c_7 => ?_)
      ·
        refine ca_vreturn h hR dX8_completeCalls_56 ?_
        exact ⟨rfl, rfl, by rw [hn]⟩
      · exact absurd c_7 (by rw [up_s, hb]; exact lt_no rfl hn)
    | succ jj ih_2 =>
      intro n hn x2 e2 mm em
      have hn1 : n < k_mc (μ k) := by omega
      subst e2 em
      have hn12 : n < 12 := Nat.lt_of_lt_of_le hn1 hw.1
      have hb : (kf s_fin n (μ k)) 0 = μ k 0 := kf_0 s_fin_0 n _
      have hwn : k_wf (kf s_fin n (μ k)) := kf_wf n _ (fun i m hi hm => s_fin_wf i m hm) hw
      refine ca_iload_n h dX8_completeCalls_2 rfl ?_
      refine ca_aload_nr h dX8_completeCalls_3 rfl ?_
      refine gi_X8_61 h (hs.1 _ _ _ (by show _ ∧ _; exact ⟨by first | assumption | rfl | omega, by first | assumption | rfl | omega⟩)) dX8_completeCalls_4 ?_
      refine ca_icmp_ge (tgt := 56) h dX8_completeCalls_7 (by decide) (fun c_7 => ?_) (fun c_7 => ?_)
      · exact absurd (by rw [up_s, hb]; exact lt_yes rfl hn1) c_7
      ·
        refine ca_aload_nr h dX8_completeCalls_10 rfl ?_
        refine ca_iload_n h dX8_completeCalls_11 rfl ?_
        refine ca_vr h hG ml_X8_49 (c_X3_mobileJ hs hk (by omega)) (ci := 3) rfl rfl rfl (hs.1 _ _ _ (by show _ ∧ _; exact ⟨by first | assumption | rfl | omega, by first | assumption | rfl | omega⟩)) rfl rfl rfl rfl ⟨Nat.le_refl _, Nat.le_refl _⟩ rfl dX8_completeCalls_12 ?_
        refine ca_astore_n h dX8_completeCalls_15 rfl ?_
        refine ca_aload_nr h dX8_completeCalls_16 rfl ?_
        refine gi_X8_87 h (hs.1 _ _ _ (by show _ ∧ _; exact ⟨by first | assumption | rfl | omega, by first | assumption | rfl | omega⟩)) dX8_completeCalls_17 ?_
        refine ca_iconst h dX8_completeCalls_20 ik_1 ?_
        refine ca_icmp_ne (tgt := 50) h dX8_completeCalls_21 (by decide) (fun c_21 => ?_) (fun c_21 => ?_)
        ·
          refine ca_iinc h dX8_completeCalls_50 rfl ik_1 rfl ?_
          refine ca_goto (tgt := 2) h dX8_completeCalls_53 (by decide) ?_
          refine ca_pick [2, 3, 0] rfl ?_
          have e9 : kf s_fin (n + 1) (μ k) = _ := if_neg (by have c9 := c_21; rw [up_s] at c9; exact c9)
          exact ih_2 (n + 1) (by omega) _ (nI_1 n) _ (by rw [e9] <;> simp only [up_s, up_up])
        ·
          refine ca_aload_nr h dX8_completeCalls_24 rfl ?_
          refine ca_dup h dX8_completeCalls_25 rfl ?_
          refine gi_X8_129 h (hs.1 _ _ _ (by show _ ∧ _; exact ⟨by first | assumption | rfl | omega, by first | assumption | rfl | omega⟩)) dX8_completeCalls_26 ?_
          refine ca_iconst h dX8_completeCalls_29 ik_1 ?_
          refine ca_isub h dX8_completeCalls_30 ?_
          refine pi_X8_129 h (hs.1 _ _ _ (by show _ ∧ _; exact ⟨by first | assumption | rfl | omega, by first | assumption | rfl | omega⟩)) dX8_completeCalls_31 ?_
          refine ca_aload_nr h dX8_completeCalls_34 rfl ?_
          refine ca_mem (μ'' := up μ k (nw (kf s_fin n (μ k)) 3 n 6 ((kf s_fin n (μ k)) 3 n 6 - 1))) (by simp only [ch_st_nw, up_s, up_up]) ?_
          refine gi_X8_129 h (hs.1 _ _ _ (by show _ ∧ _; exact ⟨by first | assumption | rfl | omega, by first | assumption | rfl | omega⟩)) dX8_completeCalls_35 ?_
          refine ca_if_gt (tgt := 50) h dX8_completeCalls_38 (by decide) (fun c_38 => ?_) (fun c_38 => ?_)
          ·
            refine ca_iinc h dX8_completeCalls_50 rfl ik_1 rfl ?_
            refine ca_goto (tgt := 2) h dX8_completeCalls_53 (by decide) ?_
            refine ca_pick [2, 3, 0] rfl ?_
            have e9 : kf s_fin (n + 1) (μ k) = _ := if_pos (by have c9 := c_21; rw [up_s] at c9; exact c9)
            have e8 : k_fin (kf s_fin n (μ k)) n = _ := if_pos (by have c9 := c_38; rw [up_s] at c9; exact c9)
            rw [e8] at e9
            exact ih_2 (n + 1) (by omega) _ (nI_1 n) _ (by rw [e9] <;> simp only [up_s, up_up])
          ·
            refine ca_aload_nr h dX8_completeCalls_41 rfl ?_
            refine ca_vv h hG ml_X8_132 (c_X2_becomeIdle hs hk (by omega)) (ci := 2) rfl rfl rfl (hs.1 _ _ _ (by show _ ∧ _; exact ⟨by first | assumption | rfl | omega, by first | assumption | rfl | omega⟩)) rfl rfl rfl rfl ⟨Nat.le_refl _, Nat.le_refl _⟩ rfl dX8_completeCalls_42 ?_
            refine ca_aload_nr h dX8_completeCalls_45 rfl ?_
            refine ca_iconst h dX8_completeCalls_46 ik_2 ?_
            refine ca_vv h hG ml_X8_135 (c_X3_count (j := 2) hs hk (by decide)) (ci := 3) rfl rfl rfl (hs.1 _ _ _ (by show _ ∧ _; exact ⟨by first | assumption | rfl | omega, by first | assumption | rfl | omega⟩)) rfl rfl rfl rfl ⟨Nat.le_refl _, Nat.le_refl _⟩ rfl dX8_completeCalls_47 ?_
            refine ca_iinc h dX8_completeCalls_50 rfl ik_1 rfl ?_
            refine ca_goto (tgt := 2) h dX8_completeCalls_53 (by decide) ?_
            refine ca_pick [2, 3, 0] rfl ?_
            have e9 : kf s_fin (n + 1) (μ k) = _ := if_pos (by have c9 := c_21; rw [up_s] at c9; exact c9)
            have e8 : k_fin (kf s_fin n (μ k)) n = _ := if_neg (by have c9 := c_38; rw [up_s] at c9; exact c9)
            rw [e8] at e9
            exact ih_2 (n + 1) (by omega) _ (nI_1 n) _ (by rw [e9] <;> simp only [up_s, up_up])
  refine ca_pick [1, 2, 0] rfl ?_
  exact loop_2 _ 0 (Nat.zero_add _) _ rfl _ (by rw [show kf s_fin 0 (μ k) = μ k from rfl, up_id])
set_option maxHeartbeats 100000 in
theorem c_X8_dropCalls {l : Launch} {E : ch_E} {S : ch_S} {μ : ch_M} {k : Nat} (hs : ch_Std E S) (hk : k < 15) (hw : k_wf (μ k)) : ch_C E l yX8_dropCalls cX8_dropCalls 5 none 4 0 0 S μ [.ref (S.1 15 16 0), .ref (S.1 k 0 0)] (ch_F none S (up μ k (kf s_dr (k_mc (μ k)) (μ k)))) := by
  refine ch_enter rfl rfl ?_
  intro X hl0 h hG hR hnm
  have h : ch_H X E RX8 cX8_dropCalls 5 := h
  show ch_W X E 5 S μ 0 0 0 [(0, .ref (S.1 15 16 0)), (1, .ref (S.1 k 0 0))] []
  refine ca_iconst h dX8_dropCalls_0 ik_0 ?_
  refine ca_istore_n h dX8_dropCalls_1 rfl ?_
  have loop_2 : ∀ (jj n : Nat), n + jj = k_mc (μ k) → ∀ (x2 : Int32) (e2 : x2 = nI n) (mm : ch_M) (em : mm = up μ k (kf s_dr n (μ k))), ch_W X E 5 S mm 0 0 2 [(0, .ref (S.1 15 16 0)), (1, .ref (S.1 k 0 0)), (2, .int x2)] [] := by
    intro jj
    induction jj with
    | zero =>
      intro n hn x2 e2 mm em
      have hn : n = k_mc (μ k) := by omega
      subst e2 em
      have hb : (kf s_dr n (μ k)) 0 = μ k 0 := kf_0 s_dr_0 n _
      have hwn : k_wf (kf s_dr n (μ k)) := kf_wf n _ (fun i m hi hm => s_dr_wf i m hm) hw
      refine ca_iload_n h dX8_dropCalls_2 rfl ?_
      refine ca_aload_nr h dX8_dropCalls_3 rfl ?_
      refine gi_X8_61 h (hs.1 _ _ _ (by show _ ∧ _; exact ⟨by first | assumption | rfl | omega, by first | assumption | rfl | omega⟩)) dX8_dropCalls_4 ?_
      refine ca_icmp_ge (tgt := 91) h dX8_dropCalls_7 (by decide) (fun c_7 => ?_) (fun c_7 => ?_)
      ·
        refine ca_vreturn h hR dX8_dropCalls_91 ?_
        exact ⟨rfl, rfl, by rw [hn]⟩
      · exact absurd c_7 (by rw [up_s, hb]; exact lt_no rfl hn)
    | succ jj ih_2 =>
      intro n hn x2 e2 mm em
      have hn1 : n < k_mc (μ k) := by omega
      subst e2 em
      have hn12 : n < 12 := Nat.lt_of_lt_of_le hn1 hw.1
      have hb : (kf s_dr n (μ k)) 0 = μ k 0 := kf_0 s_dr_0 n _
      have hwn : k_wf (kf s_dr n (μ k)) := kf_wf n _ (fun i m hi hm => s_dr_wf i m hm) hw
      refine ca_iload_n h dX8_dropCalls_2 rfl ?_
      refine ca_aload_nr h dX8_dropCalls_3 rfl ?_
      refine gi_X8_61 h (hs.1 _ _ _ (by show _ ∧ _; exact ⟨by first | assumption | rfl | omega, by first | assumption | rfl | omega⟩)) dX8_dropCalls_4 ?_
      refine ca_icmp_ge (tgt := 91) h dX8_dropCalls_7 (by decide) (fun c_7 => ?_) (fun c_7 => ?_)
      · exact absurd (by rw [up_s, hb]; exact lt_yes rfl hn1) c_7
      ·
        refine ca_aload_nr h dX8_dropCalls_10 rfl ?_
        refine ca_iload_n h dX8_dropCalls_11 rfl ?_
        refine ca_vr h hG ml_X8_49 (c_X3_mobileJ hs hk (by omega)) (ci := 3) rfl rfl rfl (hs.1 _ _ _ (by show _ ∧ _; exact ⟨by first | assumption | rfl | omega, by first | assumption | rfl | omega⟩)) rfl rfl rfl rfl ⟨Nat.le_refl _, Nat.le_refl _⟩ rfl dX8_dropCalls_12 ?_
        refine ca_astore_n h dX8_dropCalls_15 rfl ?_
        refine ca_aload_nr h dX8_dropCalls_16 rfl ?_
        refine gi_X8_87 h (hs.1 _ _ _ (by show _ ∧ _; exact ⟨by first | assumption | rfl | omega, by first | assumption | rfl | omega⟩)) dX8_dropCalls_17 ?_
        refine ca_iconst h dX8_dropCalls_20 ik_1 ?_
        refine ca_icmp_ne (tgt := 85) h dX8_dropCalls_21 (by decide) (fun c_21 => ?_) (fun c_21 => ?_)
        ·
          refine ca_iinc h dX8_dropCalls_85 rfl ik_1 rfl ?_
          refine ca_goto (tgt := 2) h dX8_dropCalls_88 (by decide) ?_
          refine ca_pick [2, 3, 0] rfl ?_
          have e9 : kf s_dr (n + 1) (μ k) = _ := if_neg (by have c9 := c_21; rw [up_s] at c9; exact c9)
          exact ih_2 (n + 1) (by omega) _ (nI_1 n) _ (by rw [e9] <;> simp only [up_s, up_up])
        ·
          refine ca_aload_nr h dX8_dropCalls_24 rfl ?_
          refine ca_aload_nr h dX8_dropCalls_25 rfl ?_
          refine gi_X8_96 h (hs.1 _ _ _ (by show _ ∧ _; exact ⟨by first | assumption | rfl | omega, by first | assumption | rfl | omega⟩)) dX8_dropCalls_26 ?_
          refine ca_vi h hG ml_X8_138 (c_X2_averageOf hs hk (by omega) (by rw [up_s]; exact hwn.cnt (by omega))) (ci := 2) rfl rfl rfl (hs.1 _ _ _ (by show _ ∧ _; exact ⟨by first | assumption | rfl | omega, by first | assumption | rfl | omega⟩)) rfl rfl rfl rfl ⟨Nat.le_refl _, Nat.le_refl _⟩ rfl dX8_dropCalls_29 ?_
          refine ca_aload_nr h dX8_dropCalls_32 rfl ?_
          refine gi_X8_141 h (hs.1 _ _ _ (by show _ ∧ _; exact ⟨by first | assumption | rfl | omega, by first | assumption | rfl | omega⟩)) dX8_dropCalls_33 ?_
          refine ca_icmp_ge (tgt := 43) h dX8_dropCalls_36 (by decide) (fun c_36 => ?_) (fun c_36 => ?_)
          ·
            refine ca_iconst h dX8_dropCalls_43 ik_0 ?_
            refine ca_istore h dX8_dropCalls_44 rfl ?_
            refine ca_aload_nr h dX8_dropCalls_46 rfl ?_
            refine ca_iload h dX8_dropCalls_47 rfl ?_
            refine ca_if_eq (tgt := 61) h dX8_dropCalls_49 (by decide) (fun c_49 => ?_) (fun c_49 => ?_)
            ·
              refine ca_iconst h dX8_dropCalls_61 ik_0 ?_
              refine pi_X8_144 h (hs.1 _ _ _ (by show _ ∧ _; exact ⟨by first | assumption | rfl | omega, by first | assumption | rfl | omega⟩)) dX8_dropCalls_62 ?_
              have eb : (if k_avg (kf s_dr n (μ k)) n ((kf s_dr n (μ k)) 3 n 5) < (kf s_dr n (μ k)) 0 0 8 then (kf s_dr n (μ k)) 3 n 7 + 1 else 0) = _ := if_neg (by have c9 := c_36; simp only [up_s] at c9; exact c9)
              refine ca_mem (μ'' := up μ k (nw (kf s_dr n (μ k)) 3 n 7 (if k_avg (kf s_dr n (μ k)) n ((kf s_dr n (μ k)) 3 n 5) < (kf s_dr n (μ k)) 0 0 8 then (kf s_dr n (μ k)) 3 n 7 + 1 else 0))) (by rw [eb]; simp only [ch_st_nw, up_s, up_up]) ?_
              refine ca_aload_nr h dX8_dropCalls_65 rfl ?_
              refine gi_X8_144 h (hs.1 _ _ _ (by show _ ∧ _; exact ⟨by first | assumption | rfl | omega, by first | assumption | rfl | omega⟩)) dX8_dropCalls_66 ?_
              refine ca_aload_nr h dX8_dropCalls_69 rfl ?_
              refine gi_X8_147 h (hs.1 _ _ _ (by show _ ∧ _; exact ⟨by first | assumption | rfl | omega, by first | assumption | rfl | omega⟩)) dX8_dropCalls_70 ?_
              refine ca_icmp_lt (tgt := 85) h dX8_dropCalls_73 (by decide) (fun c_73 => ?_) (fun c_73 => ?_)
              ·
                refine ca_iinc h dX8_dropCalls_85 rfl ik_1 rfl ?_
                refine ca_goto (tgt := 2) h dX8_dropCalls_88 (by decide) ?_
                refine ca_pick [3, 4, 0] rfl ?_
                have e9 : kf s_dr (n + 1) (μ k) = _ := if_pos (by have c9 := c_21; rw [up_s] at c9; exact c9)
                have e8 : k_dr (kf s_dr n (μ k)) n = _ := if_pos (by have c9 := c_73; simp only [up_s] at c9; exact c9)
                rw [e8] at e9
                exact ih_2 (n + 1) (by omega) _ (nI_1 n) _ (by rw [e9] <;> simp only [up_s, up_up])
              ·
                refine ca_aload_nr h dX8_dropCalls_76 rfl ?_
                refine ca_vv h hG ml_X8_132 (c_X2_becomeIdle hs hk (by omega)) (ci := 2) rfl rfl rfl (hs.1 _ _ _ (by show _ ∧ _; exact ⟨by first | assumption | rfl | omega, by first | assumption | rfl | omega⟩)) rfl rfl rfl rfl ⟨Nat.le_refl _, Nat.le_refl _⟩ rfl dX8_dropCalls_77 ?_
                refine ca_aload_nr h dX8_dropCalls_80 rfl ?_
                refine ca_iconst h dX8_dropCalls_81 ik_3 ?_
                refine ca_vv h hG ml_X8_135 (c_X3_count (j := 3) hs hk (by decide)) (ci := 3) rfl rfl rfl (hs.1 _ _ _ (by show _ ∧ _; exact ⟨by first | assumption | rfl | omega, by first | assumption | rfl | omega⟩)) rfl rfl rfl rfl ⟨Nat.le_refl _, Nat.le_refl _⟩ rfl dX8_dropCalls_82 ?_
                refine ca_iinc h dX8_dropCalls_85 rfl ik_1 rfl ?_
                refine ca_goto (tgt := 2) h dX8_dropCalls_88 (by decide) ?_
                refine ca_pick [3, 4, 0] rfl ?_
                have e9 : kf s_dr (n + 1) (μ k) = _ := if_pos (by have c9 := c_21; rw [up_s] at c9; exact c9)
                have e8 : k_dr (kf s_dr n (μ k)) n = _ := if_neg (by have c9 := c_73; simp only [up_s] at c9; exact c9)
                rw [e8] at e9
                exact ih_2 (n + 1) (by omega) _ (nI_1 n) _ (by rw [e9] <;> simp only [up_s, up_up])
            · exact absurd rfl c_49
          ·
            refine ca_iconst h dX8_dropCalls_39 ik_1 ?_
            refine ca_goto (tgt := 44) h dX8_dropCalls_40 (by decide) ?_
            refine ca_istore h dX8_dropCalls_44 rfl ?_
            refine ca_aload_nr h dX8_dropCalls_46 rfl ?_
            refine ca_iload h dX8_dropCalls_47 rfl ?_
            refine ca_if_eq (tgt := 61) h dX8_dropCalls_49 (by decide) (fun c_49 => ?_) (fun c_49 => ?_)
            · exact absurd c_49 (by decide)
            ·
              refine ca_aload_nr h dX8_dropCalls_52 rfl ?_
              refine gi_X8_144 h (hs.1 _ _ _ (by show _ ∧ _; exact ⟨by first | assumption | rfl | omega, by first | assumption | rfl | omega⟩)) dX8_dropCalls_53 ?_
              refine ca_iconst h dX8_dropCalls_56 ik_1 ?_
              refine ca_iadd h dX8_dropCalls_57 ?_
              refine ca_goto (tgt := 62) h dX8_dropCalls_58 (by decide) ?_
              refine pi_X8_144 h (hs.1 _ _ _ (by show _ ∧ _; exact ⟨by first | assumption | rfl | omega, by first | assumption | rfl | omega⟩)) dX8_dropCalls_62 ?_
              have eb : (if k_avg (kf s_dr n (μ k)) n ((kf s_dr n (μ k)) 3 n 5) < (kf s_dr n (μ k)) 0 0 8 then (kf s_dr n (μ k)) 3 n 7 + 1 else 0) = _ := if_pos (by have c9 := c_36; simp only [up_s] at c9; exact c9)
              refine ca_mem (μ'' := up μ k (nw (kf s_dr n (μ k)) 3 n 7 (if k_avg (kf s_dr n (μ k)) n ((kf s_dr n (μ k)) 3 n 5) < (kf s_dr n (μ k)) 0 0 8 then (kf s_dr n (μ k)) 3 n 7 + 1 else 0))) (by rw [eb]; simp only [ch_st_nw, up_s, up_up]) ?_
              refine ca_aload_nr h dX8_dropCalls_65 rfl ?_
              refine gi_X8_144 h (hs.1 _ _ _ (by show _ ∧ _; exact ⟨by first | assumption | rfl | omega, by first | assumption | rfl | omega⟩)) dX8_dropCalls_66 ?_
              refine ca_aload_nr h dX8_dropCalls_69 rfl ?_
              refine gi_X8_147 h (hs.1 _ _ _ (by show _ ∧ _; exact ⟨by first | assumption | rfl | omega, by first | assumption | rfl | omega⟩)) dX8_dropCalls_70 ?_
              refine ca_icmp_lt (tgt := 85) h dX8_dropCalls_73 (by decide) (fun c_73 => ?_) (fun c_73 => ?_)
              ·
                refine ca_iinc h dX8_dropCalls_85 rfl ik_1 rfl ?_
                refine ca_goto (tgt := 2) h dX8_dropCalls_88 (by decide) ?_
                refine ca_pick [3, 4, 0] rfl ?_
                have e9 : kf s_dr (n + 1) (μ k) = _ := if_pos (by have c9 := c_21; rw [up_s] at c9; exact c9)
                have e8 : k_dr (kf s_dr n (μ k)) n = _ := if_pos (by have c9 := c_73; simp only [up_s] at c9; exact c9)
                rw [e8] at e9
                exact ih_2 (n + 1) (by omega) _ (nI_1 n) _ (by rw [e9] <;> simp only [up_s, up_up])
              ·
                refine ca_aload_nr h dX8_dropCalls_76 rfl ?_
                refine ca_vv h hG ml_X8_132 (c_X2_becomeIdle hs hk (by omega)) (ci := 2) rfl rfl rfl (hs.1 _ _ _ (by show _ ∧ _; exact ⟨by first | assumption | rfl | omega, by first | assumption | rfl | omega⟩)) rfl rfl rfl rfl ⟨Nat.le_refl _, Nat.le_refl _⟩ rfl dX8_dropCalls_77 ?_
                refine ca_aload_nr h dX8_dropCalls_80 rfl ?_
                refine ca_iconst h dX8_dropCalls_81 ik_3 ?_
                refine ca_vv h hG ml_X8_135 (c_X3_count (j := 3) hs hk (by decide)) (ci := 3) rfl rfl rfl (hs.1 _ _ _ (by show _ ∧ _; exact ⟨by first | assumption | rfl | omega, by first | assumption | rfl | omega⟩)) rfl rfl rfl rfl ⟨Nat.le_refl _, Nat.le_refl _⟩ rfl dX8_dropCalls_82 ?_
                refine ca_iinc h dX8_dropCalls_85 rfl ik_1 rfl ?_
                refine ca_goto (tgt := 2) h dX8_dropCalls_88 (by decide) ?_
                refine ca_pick [3, 4, 0] rfl ?_
                have e9 : kf s_dr (n + 1) (μ k) = _ := if_pos (by have c9 := c_21; rw [up_s] at c9; exact c9)
                have e8 : k_dr (kf s_dr n (μ k)) n = _ := if_neg (by have c9 := c_73; simp only [up_s] at c9; exact c9)
                rw [e8] at e9
                exact ih_2 (n + 1) (by omega) _ (nI_1 n) _ (by rw [e9] <;> simp only [up_s, up_up])
  refine ca_pick [1, 2, 0] rfl ?_
  exact loop_2 _ 0 (Nat.zero_add _) _ rfl _ (by rw [show kf s_dr 0 (μ k) = μ k from rfl, up_id])
set_option maxHeartbeats 100000 in
theorem c_X8_serve {l : Launch} {E : ch_E} {S : ch_S} {μ : ch_M} {k i : Nat} (hs : ch_Std E S) (hk : k < 15) (hw : k_wf (μ k)) (hi : i < 13) {c : Int32} : ch_C E l yX8_serve cX8_serve 4 none 4 0 0 S μ [.ref (S.1 15 16 0), .ref (S.1 k 0 0), .ref (S.1 k 3 i), .int c] (ch_F none S (up μ k (k_sv (μ k) i c))) := by
  refine ch_enter rfl rfl ?_
  intro X hl0 h hG hR hnm
  have h : ch_H X E RX8 cX8_serve 4 := h
  show ch_W X E 4 S μ 0 0 0 [(0, .ref (S.1 15 16 0)), (1, .ref (S.1 k 0 0)), (2, .ref (S.1 k 3 i)), (3, .int c)] []
  refine ca_aload_nr h dX8_serve_0 rfl ?_
  refine gi_X8_87 h (hs.1 _ _ _ (by show _ ∧ _; exact ⟨by first | assumption | rfl | omega, by first | assumption | rfl | omega⟩)) dX8_serve_1 ?_
  refine ca_iconst h dX8_serve_4 ik_1 ?_
  refine ca_icmp_ne (tgt := 17) h dX8_serve_5 (by decide) (fun c_5 => ?_) (fun c_5 => ?_)
  ·
    refine ca_aload_nr h dX8_serve_17 rfl ?_
    refine ca_iload_n h dX8_serve_18 rfl ?_
    refine ca_vv h hG ml_X8_165 (c_X2_beginToTalk hs hk hi) (ci := 2) rfl rfl rfl (hs.1 _ _ _ (by show _ ∧ _; exact ⟨by first | assumption | rfl | omega, by first | assumption | rfl | omega⟩)) rfl rfl rfl rfl ⟨Nat.le_refl _, Nat.le_refl _⟩ rfl dX8_serve_19 ?_
    refine ca_aload_nr h dX8_serve_22 rfl ?_
    refine ca_bipush h dX8_serve_23 bk_6 ?_
    refine ca_vv h hG ml_X8_135 (c_X3_count (j := 6) hs hk (by decide)) (ci := 3) rfl rfl rfl (hs.1 _ _ _ (by show _ ∧ _; exact ⟨by first | assumption | rfl | omega, by first | assumption | rfl | omega⟩)) rfl rfl rfl rfl ⟨Nat.le_refl _, Nat.le_refl _⟩ rfl dX8_serve_25 ?_
    refine ca_vreturn h hR dX8_serve_28 ?_
    exact ⟨rfl, rfl, by unfold k_sv; rw [if_neg c_5] <;> simp only [up_s, up_up]⟩
  ·
    refine ca_aload_nr h dX8_serve_8 rfl ?_
    refine ca_aload_nr h dX8_serve_9 rfl ?_
    refine ca_iload_n h dX8_serve_10 rfl ?_
    refine ca_vv h hG ml_X8_161 (c_X3_handOver hs hk hi) (ci := 3) rfl rfl rfl (hs.1 _ _ _ (by show _ ∧ _; exact ⟨by first | assumption | rfl | omega, by first | assumption | rfl | omega⟩)) rfl rfl rfl rfl ⟨Nat.le_refl _, Nat.le_refl _⟩ rfl dX8_serve_11 ?_
    refine ca_goto (tgt := 22) h dX8_serve_14 (by decide) ?_
    refine ca_aload_nr h dX8_serve_22 rfl ?_
    refine ca_bipush h dX8_serve_23 bk_6 ?_
    refine ca_vv h hG ml_X8_135 (c_X3_count (j := 6) hs hk (by decide)) (ci := 3) rfl rfl rfl (hs.1 _ _ _ (by show _ ∧ _; exact ⟨by first | assumption | rfl | omega, by first | assumption | rfl | omega⟩)) rfl rfl rfl rfl ⟨Nat.le_refl _, Nat.le_refl _⟩ rfl dX8_serve_25 ?_
    refine ca_vreturn h hR dX8_serve_28 ?_
    exact ⟨rfl, rfl, by unfold k_sv; rw [if_pos c_5] <;> simp only [up_s, up_up]⟩
set_option maxHeartbeats 100000 in
theorem c_X8_serveQueues {l : Launch} {E : ch_E} {S : ch_S} {μ : ch_M} {k : Nat} (hs : ch_Std E S) (hk : k < 15) (hw : k_wf (μ k)) : ch_C E l yX8_serveQueues cX8_serveQueues 5 none 5 0 0 S μ [.ref (S.1 15 16 0), .ref (S.1 k 0 0)] (ch_F none S (up μ k (kf s_sv (k_cc (μ k)) (μ k)))) := by
  refine ch_enter rfl rfl ?_
  intro X hl0 h hG hR hnm
  have h : ch_H X E RX8 cX8_serveQueues 5 := h
  show ch_W X E 5 S μ 0 0 0 [(0, .ref (S.1 15 16 0)), (1, .ref (S.1 k 0 0))] []
  refine ca_iconst h dX8_serveQueues_0 ik_0 ?_
  refine ca_istore_n h dX8_serveQueues_1 rfl ?_
  have loop_2 : ∀ (jj n : Nat), n + jj = k_cc (μ k) → ∀ (x2 : Int32) (e2 : x2 = nI n) (mm : ch_M) (em : mm = up μ k (kf s_sv n (μ k))), ch_W X E 5 S mm 0 0 2 [(0, .ref (S.1 15 16 0)), (1, .ref (S.1 k 0 0)), (2, .int x2)] [] := by
    intro jj
    induction jj with
    | zero =>
      intro n hn x2 e2 mm em
      have hn : n = k_cc (μ k) := by omega
      subst e2 em
      have hb : (kf s_sv n (μ k)) 0 = μ k 0 := kf_0 (fun c m => k_svL_0 _ _ _) n _
      have hwn : k_wf (kf s_sv n (μ k)) := kf_wf n _ (fun i m hi hm => k_svL_wf _ _ m hm) hw
      refine ca_iload_n h dX8_serveQueues_2 rfl ?_
      refine ca_aload_nr h dX8_serveQueues_3 rfl ?_
      refine gi_X8_93 h (hs.1 _ _ _ (by show _ ∧ _; exact ⟨by first | assumption | rfl | omega, by first | assumption | rfl | omega⟩)) dX8_serveQueues_4 ?_
      refine ca_icmp_ge (tgt := 67) h dX8_serveQueues_7 (by decide) (fun c_7 => ?_) (fun c_7 => ?_)
      ·
        refine ca_vreturn h hR dX8_serveQueues_67 ?_
        exact ⟨rfl, rfl, by rw [hn]⟩
      · exact absurd c_7 (by rw [up_s, hb]; exact lt_no rfl hn)
    | succ jj ih_2 =>
      intro n hn x2 e2 mm em
      have hn1 : n < k_cc (μ k) := by omega
      subst e2 em
      have hn8 : n < 8 := Nat.lt_of_lt_of_le hn1 hw.2.1
      have hb : (kf s_sv n (μ k)) 0 = μ k 0 := kf_0 (fun c m => k_svL_0 _ _ _) n _
      have hwn : k_wf (kf s_sv n (μ k)) := kf_wf n _ (fun i m hi hm => k_svL_wf _ _ m hm) hw
      refine ca_iload_n h dX8_serveQueues_2 rfl ?_
      refine ca_aload_nr h dX8_serveQueues_3 rfl ?_
      refine gi_X8_93 h (hs.1 _ _ _ (by show _ ∧ _; exact ⟨by first | assumption | rfl | omega, by first | assumption | rfl | omega⟩)) dX8_serveQueues_4 ?_
      refine ca_icmp_ge (tgt := 67) h dX8_serveQueues_7 (by decide) (fun c_7 => ?_) (fun c_7 => ?_)
      · exact absurd (by rw [up_s, hb]; exact lt_yes rfl hn1) c_7
      ·
        refine ca_iconst h dX8_serveQueues_10 ik_0 ?_
        refine ca_istore_n h dX8_serveQueues_11 rfl ?_
        have loop_12 : ∀ (jj b : Nat), b + jj = 12 → ∀ (x3 : Int32) (e3 : x3 = nI b) (nn : ch_N) (hwn : k_wf nn) (hx : k_svL (nI n) 12 (kf s_sv n (μ k)) = k_svL (nI n) jj nn) (mm : ch_M) (em : mm = up μ k nn), ch_W X E 5 S mm 0 0 12 [(0, .ref (S.1 15 16 0)), (1, .ref (S.1 k 0 0)), (2, .int (nI n)), (3, .int x3)] [] := by
          intro jj
          induction jj with
          | zero =>
            intro b hn x3 e3 nn hwn hx mm em
            have hn : b = 12 := by omega
            subst e3 em
            refine ca_iload_n h dX8_serveQueues_12 rfl ?_
            refine ca_bipush h dX8_serveQueues_13 bk_12 ?_
            refine ca_icmp_ge (tgt := 61) h dX8_serveQueues_15 (by decide) (fun c_15 => ?_) (fun c_15 => ?_)
            ·
              have e9 : kf s_sv (n + 1) (μ k) = nn := by show k_svL (nI n) 12 (kf s_sv n (μ k)) = nn; rw [hx]; rfl
              refine ca_iinc h dX8_serveQueues_61 rfl ik_1 rfl ?_
              refine ca_goto (tgt := 2) h dX8_serveQueues_64 (by decide) ?_
              refine ca_pick [1, 2, 0] rfl ?_
              exact ih_2 (n + 1) (by omega) _ (nI_1 n) _ (by rw [e9])
            · exact absurd c_15 (by rw [hn]; decide)
          | succ jj ih_12 =>
            intro b hn x3 e3 nn hwn hx mm em
            have hn1 : b < 12 := by omega
            subst e3 em
            refine ca_iload_n h dX8_serveQueues_12 rfl ?_
            refine ca_bipush h dX8_serveQueues_13 bk_12 ?_
            refine ca_icmp_ge (tgt := 61) h dX8_serveQueues_15 (by decide) (fun c_15 => ?_) (fun c_15 => ?_)
            · exact absurd (nI_lt (b := 12) hn1 (by decide)) c_15
            ·
              refine ca_aload_nr h dX8_serveQueues_18 rfl ?_
              refine ca_iload_n h dX8_serveQueues_19 rfl ?_
              refine ca_vi h hG ml_X8_150 (c_X3_hasFreeChannel hs hk (by rw [up_s]; exact hwn.1)) (ci := 3) rfl rfl rfl (hs.1 _ _ _ (by show _ ∧ _; exact ⟨by first | assumption | rfl | omega, by first | assumption | rfl | omega⟩)) rfl rfl rfl rfl ⟨Nat.le_refl _, Nat.le_refl _⟩ rfl dX8_serveQueues_20 ?_
              refine ca_if_eq (tgt := 61) h dX8_serveQueues_23 (by decide) (fun c_23 => ?_) (fun c_23 => ?_)
              ·
                have e9 : kf s_sv (n + 1) (μ k) = nn := by show k_svL (nI n) 12 (kf s_sv n (μ k)) = nn; rw [hx]; rw [k_svL, if_neg (by have c9 := c_23; rw [up_s] at c9; rw [bI_0.mp c9]; decide)]
                refine ca_iinc h dX8_serveQueues_61 rfl ik_1 rfl ?_
                refine ca_goto (tgt := 2) h dX8_serveQueues_64 (by decide) ?_
                refine ca_pick [1, 2, 0] rfl ?_
                exact ih_2 (n + 1) (by omega) _ (nI_1 n) _ (by rw [e9])
              ·
                refine ca_aload_nr h dX8_serveQueues_26 rfl ?_
                refine ca_iload_n h dX8_serveQueues_27 rfl ?_
                refine ca_iconst h dX8_serveQueues_28 ik_0 ?_
                refine ca_vi h hG ml_X8_154 (c_X3_queuedMobile hs hk (by rw [up_s]; exact hwn.1)) (ci := 3) rfl rfl rfl (hs.1 _ _ _ (by show _ ∧ _; exact ⟨by first | assumption | rfl | omega, by first | assumption | rfl | omega⟩)) rfl rfl rfl rfl ⟨Nat.le_refl _, Nat.le_refl _⟩ rfl dX8_serveQueues_29 ?_
                refine ca_istore h dX8_serveQueues_32 rfl ?_
                refine ca_iload h dX8_serveQueues_34 rfl ?_
                refine ca_iconst h dX8_serveQueues_36 ik_m1 ?_
                refine ca_icmp_ne (tgt := 43) h dX8_serveQueues_37 (by decide) (fun c_37 => ?_) (fun c_37 => ?_)
                ·
                  refine ca_aload_nr h dX8_serveQueues_43 rfl ?_
                  refine ca_aload_nr h dX8_serveQueues_44 rfl ?_
                  refine ca_aload_nr h dX8_serveQueues_45 rfl ?_
                  refine ca_iload h dX8_serveQueues_46 rfl ?_
                  refine ca_vr h hG ml_X8_49 (c_X3_mobileAt hs hk) (ci := 3) rfl rfl rfl (hs.1 _ _ _ (by show _ ∧ _; exact ⟨by first | assumption | rfl | omega, by first | assumption | rfl | omega⟩)) rfl rfl rfl rfl ⟨Nat.le_refl _, Nat.le_refl _⟩ rfl dX8_serveQueues_48 ?_
                  refine ca_iload_n h dX8_serveQueues_51 rfl ?_
                  refine ca_vv h hG ml_X8_157 (c_X8_serve hs hk (by rw [up_s]; exact hwn) (k_ixm _)) (ci := 8) rfl rfl rfl (hs.1 _ _ _ ⟨rfl, rfl⟩) rfl rfl rfl rfl ⟨Nat.le_refl _, Nat.le_refl _⟩ rfl dX8_serveQueues_52 ?_
                  refine ca_iinc h dX8_serveQueues_55 rfl ik_1 rfl ?_
                  refine ca_goto (tgt := 12) h dX8_serveQueues_58 (by decide) ?_
                  refine ca_pick [2, 3, 4, 0] rfl ?_
                  exact ih_12 (b + 1) (by omega) _ (nI_1 b) _ (k_sv_wf hwn _ _) (by rw [hx, k_svL, if_pos (by have c9 := c_23; rw [up_s] at c9; exact bI_n0.mp c9), if_neg (by have c9 := c_37; rw [up_s] at c9; exact c9)]) _ (by simp only [up_s, up_up])
                ·
                  refine ca_goto (tgt := 61) h dX8_serveQueues_40 (by decide) ?_
                  have e9 : kf s_sv (n + 1) (μ k) = nn := by show k_svL (nI n) 12 (kf s_sv n (μ k)) = nn; rw [hx]; rw [k_svL, if_pos (by have c9 := c_23; rw [up_s] at c9; exact bI_n0.mp c9), if_pos (by have c9 := c_37; rw [up_s] at c9; exact c9)]
                  refine ca_iinc h dX8_serveQueues_61 rfl ik_1 rfl ?_
                  refine ca_goto (tgt := 2) h dX8_serveQueues_64 (by decide) ?_
                  refine ca_pick [2, 3, 0] rfl ?_
                  exact ih_2 (n + 1) (by omega) _ (nI_1 n) _ (by rw [e9])
        refine ca_pick [1, 2, 3, 0] rfl ?_
        exact loop_12 _ 0 (Nat.zero_add _) _ rfl _ hwn rfl _ rfl
  refine ca_pick [1, 2, 0] rfl ?_
  exact loop_2 _ 0 (Nat.zero_add _) _ rfl _ (by rw [show kf s_sv 0 (μ k) = μ k from rfl, up_id])
def k_ref (n : ch_N) (i : Nat) (c : Int32) : ch_N := nw n 2 (k_rx (n 3 i 5) c) 3 (n 2 (k_rx (n 3 i 5) c) 3 + 1)
/-- the first candidate with a free channel; refusals of those before it -/
def k_c1 (q : ch_N) (i N : Nat) : Nat → ch_N → Bool × ch_N
  | 0, n => (false, n)
  | j + 1, n => if k_free n (k_car q (nI (N - (j + 1)))) = true then (true, k_ho n i (k_car q (nI (N - (j + 1))))) else k_c1 q i N j (k_ref n i (k_car q (nI (N - (j + 1)))))
def k_c2 (q : ch_N) (i N : Nat) : Nat → ch_N → ch_N
  | 0, n => n
  | j + 1, n => if k_place n (k_car q (nI (N - (j + 1)))) = true then k_mrq n i (k_car q (nI (N - (j + 1)))) (n 0 0 3) else k_c2 q i N j n
def k_ch (n q : ch_N) (i : Nat) : ch_N × ch_N :=
  let q1 := k_rank n q i
  let N := Int32.toNatClampNeg (q1 17 0 0)
  let r := k_c1 q1 i N N n
  (if r.1 = true then r.2 else if q1 17 0 1 = 0 then r.2 else k_c2 q1 i N N r.2, q1)
theorem k_ref_wf {n : ch_N} (h : k_wf n) (i : Nat) (c : Int32) : k_wf (k_ref n i c) := nw2_wf h _ _ _
theorem k_ref_0 (n : ch_N) (i : Nat) (c : Int32) : (k_ref n i c) 0 = n 0 := nw2_0 _ _ _ _
theorem k_c1_wf (q : ch_N) (i N : Nat) : ∀ (j : Nat) (n : ch_N), k_wf n → k_wf (k_c1 q i N j n).2
  | 0, _, h => h
  | j + 1, n, h => by
    unfold k_c1; split
    · exact k_ho_wf h _ _
    · exact k_c1_wf q i N j _ (k_ref_wf h _ _)
theorem k_c1_0 (q : ch_N) (i N : Nat) : ∀ (j : Nat) (n : ch_N), (k_c1 q i N j n).2 0 = n 0
  | 0, _ => rfl
  | j + 1, n => by
    unfold k_c1; split
    · exact k_ho_0 _ _ _
    · rw [k_c1_0 q i N j, k_ref_0]
theorem k_c2_wf (q : ch_N) (i N : Nat) : ∀ (j : Nat) (n : ch_N), k_wf n → k_wf (k_c2 q i N j n)
  | 0, _, h => h
  | j + 1, n, h => by
    unfold k_c2; split
    · exact k_mrq_wf h _ _ _
    · exact k_c2_wf q i N j _ h
theorem k_c2_0 (q : ch_N) (i N : Nat) : ∀ (j : Nat) (n : ch_N), (k_c2 q i N j n) 0 = n 0
  | 0, _ => rfl
  | j + 1, n => by
    unfold k_c2; split
    · exact k_mrq_0 _ _ _ _
    · exact k_c2_0 q i N j n
theorem k_ch_wf {n : ch_N} (h : k_wf n) (q : ch_N) (i : Nat) : k_wf (k_ch n q i).1 := by
  unfold k_ch
  dsimp only
  split
  · exact k_c1_wf _ _ _ _ _ h
  · split
    · exact k_c1_wf _ _ _ _ _ h
    · exact k_c2_wf _ _ _ _ _ (k_c1_wf _ _ _ _ _ h)
theorem k_ch_0 (n q : ch_N) (i : Nat) : (k_ch n q i).1 0 = n 0 := by
  unfold k_ch
  dsimp only
  split
  · exact k_c1_0 _ _ _ _ _
  · split
    · exact k_c1_0 _ _ _ _ _
    · rw [k_c2_0, k_c1_0]
def s_dc : Nat → ch_N × ch_N → ch_N × ch_N := fun i s => if s.1 3 i 4 = 1 ∧ s.1 3 i 8 = -1 then k_ch s.1 s.2 i else s
theorem s_dc_0 : ∀ (N : Nat) (s : ch_N × ch_N), (kf s_dc N s).1 0 = s.1 0
  | 0, _ => rfl
  | N + 1, s => by
    show (s_dc N (kf s_dc N s)).1 0 = _
    unfold s_dc
    split
    · rw [k_ch_0]; exact s_dc_0 N s
    · exact s_dc_0 N s
theorem s_dc_wf : ∀ (N : Nat) (s : ch_N × ch_N), k_wf s.1 → k_wf (kf s_dc N s).1
  | 0, _, h => h
  | N + 1, s, h => by
    show k_wf (s_dc N (kf s_dc N s)).1
    unfold s_dc
    split
    · exact k_ch_wf (s_dc_wf N s h) _ _
    · exact s_dc_wf N s h
set_option maxHeartbeats 100000 in
theorem c_X8_considerHandover {l : Launch} {E : ch_E} {S : ch_S} {μ : ch_M} {k i : Nat} (hs : ch_Std E S) (hk : k < 15) (hw : k_wf (μ k)) (hi : i < 12) : ch_C E l yX8_considerHandover cX8_considerHandover 5 none 4 0 0 S μ [.ref (S.1 15 16 0), .ref (S.1 k 0 0), .ref (S.1 k 3 i)] (ch_F none S (up (up μ k (k_ch (μ k) (μ 15) i).1) 15 (k_ch (μ k) (μ 15) i).2)) := by
  refine ch_enter rfl rfl ?_
  intro X hl0 h hG hR hnm
  have h : ch_H X E RX8 cX8_considerHandover 5 := h
  have hk15 : k ≠ 15 := by omega
  obtain ⟨q1, hq1⟩ : ∃ z, z = k_rank (μ k) (μ 15) i := ⟨_, rfl⟩
  obtain ⟨N, hN⟩ : ∃ z, z = Int32.toNatClampNeg (q1 17 0 0) := ⟨_, rfl⟩
  show ch_W X E 5 S μ 0 0 0 [(0, .ref (S.1 15 16 0)), (1, .ref (S.1 k 0 0)), (2, .ref (S.1 k 3 i))] []
  refine ca_aload_nr h dX8_considerHandover_0 rfl ?_
  refine gs_X8_12 h hs ⟨rfl, rfl⟩ dX8_considerHandover_1 ?_
  refine ca_aload_nr h dX8_considerHandover_4 rfl ?_
  refine ca_aload_nr h dX8_considerHandover_5 rfl ?_
  refine ca_vv h hG ml_X8_53 (c_X6_rank hs hk hw (by omega)) (ci := 6) rfl rfl rfl (hs.1 _ _ _ ⟨rfl, rfl⟩) rfl rfl rfl rfl ⟨Nat.le_refl _, Nat.le_refl _⟩ rfl dX8_considerHandover_6 ?_
  refine ca_mem (μ'' := up (up μ k (μ k)) 15 q1) (by rw [hq1, up_id]) ?_
  refine ca_iconst h dX8_considerHandover_9 ik_0 ?_
  refine ca_istore_n h dX8_considerHandover_10 rfl ?_
  have loop_11 : ∀ (jj n : Nat), n + jj = N → ∀ (x3 : Int32) (e3 : x3 = nI n) (nn : ch_N) (hwn : k_wf nn) (hx : k_c1 q1 i N N (μ k) = k_c1 q1 i N jj nn) (mm : ch_M) (em : mm = up (up μ k nn) 15 q1), ch_W X E 5 S mm 0 0 11 [(0, .ref (S.1 15 16 0)), (1, .ref (S.1 k 0 0)), (2, .ref (S.1 k 3 i)), (3, .int x3)] [] := by
    intro jj
    induction jj with
    | zero =>
      intro n hn x3 e3 nn hwn hx mm em
      have hn : n = N := by omega
      subst e3 em
      refine ca_iload_n h dX8_considerHandover_11 rfl ?_
      refine ca_aload_nr h dX8_considerHandover_12 rfl ?_
      refine gs_X8_12 h hs ⟨rfl, rfl⟩ dX8_considerHandover_13 ?_
      refine gi_X8_174 h (hs.1 _ _ _ ⟨rfl, rfl⟩) dX8_considerHandover_16 ?_
      refine ca_icmp_ge (tgt := 74) h dX8_considerHandover_19 (by decide) (fun c_19 => ?_) (fun c_19 => ?_)
      ·
        have hr1 : k_c1 q1 i N N (μ k) = (false, nn) := by rw [hx]; rfl
        refine ca_aload_nr h dX8_considerHandover_74 rfl ?_
        refine gs_X8_12 h hs ⟨rfl, rfl⟩ dX8_considerHandover_75 ?_
        refine gi_X8_179 h (hs.1 _ _ _ ⟨rfl, rfl⟩) dX8_considerHandover_78 ?_
        refine ca_if_ne (tgt := 85) h dX8_considerHandover_81 (by decide) (fun c_81 => ?_) (fun c_81 => ?_)
        ·
          refine ca_iconst h dX8_considerHandover_85 ik_0 ?_
          refine ca_istore_n h dX8_considerHandover_86 rfl ?_
          have loop_87 : ∀ (jj n : Nat), n + jj = N → ∀ (x3 : Int32) (e3 : x3 = nI n) (hy : k_c2 q1 i N N nn = k_c2 q1 i N jj nn), ch_W X E 5 S (up (up μ k nn) 15 q1) 0 0 87 [(0, .ref (S.1 15 16 0)), (1, .ref (S.1 k 0 0)), (2, .ref (S.1 k 3 i)), (3, .int x3)] [] := by
            intro jj
            induction jj with
            | zero =>
              intro n hn x3 e3 hy
              have hn : n = N := by omega
              subst e3
              refine ca_iload_n h dX8_considerHandover_87 rfl ?_
              refine ca_aload_nr h dX8_considerHandover_88 rfl ?_
              refine gs_X8_12 h hs ⟨rfl, rfl⟩ dX8_considerHandover_89 ?_
              refine gi_X8_174 h (hs.1 _ _ _ ⟨rfl, rfl⟩) dX8_considerHandover_92 ?_
              refine ca_icmp_ge (tgt := 134) h dX8_considerHandover_95 (by decide) (fun c_95 => ?_) (fun c_95 => ?_)
              ·
                refine ca_vreturn h hR dX8_considerHandover_134 ?_
                have hem : ¬ q1 17 0 1 = 0 := by have c9 := c_81; rw [up_s] at c9; exact c9
                exact ⟨rfl, rfl, by unfold k_ch; rw [← hq1]; dsimp only; rw [← hN, hr1]; simp only [if_false, Bool.false_eq_true, if_neg hem, hy]; rfl⟩
              · exact absurd c_95 (by rw [up_s]; exact lt_no hN hn)
            | succ jj ih_87 =>
              intro n hn x3 e3 hy
              have hn1 : n < N := by omega
              subst e3
              refine ca_iload_n h dX8_considerHandover_87 rfl ?_
              refine ca_aload_nr h dX8_considerHandover_88 rfl ?_
              refine gs_X8_12 h hs ⟨rfl, rfl⟩ dX8_considerHandover_89 ?_
              refine gi_X8_174 h (hs.1 _ _ _ ⟨rfl, rfl⟩) dX8_considerHandover_92 ?_
              refine ca_icmp_ge (tgt := 134) h dX8_considerHandover_95 (by decide) (fun c_95 => ?_) (fun c_95 => ?_)
              · exact absurd (by rw [up_s]; exact lt_yes hN hn1) c_95
              ·
                refine ca_aload_nr h dX8_considerHandover_98 rfl ?_
                refine gs_X8_12 h hs ⟨rfl, rfl⟩ dX8_considerHandover_99 ?_
                refine ca_iload_n h dX8_considerHandover_102 rfl ?_
                refine ca_vi h hG ml_X8_57 (c_X6_cellAtRank hs) (ci := 6) rfl rfl rfl (hs.1 _ _ _ ⟨rfl, rfl⟩) rfl rfl rfl rfl ⟨Nat.le_refl _, Nat.le_refl _⟩ rfl dX8_considerHandover_103 ?_
                refine ca_top (show _ = k_car q1 (nI n) by rw [up_s]) ?_
                refine ca_istore h dX8_considerHandover_106 rfl ?_
                refine ca_aload_nr h dX8_considerHandover_108 rfl ?_
                refine ca_iload h dX8_considerHandover_109 rfl ?_
                refine ca_vi h hG ml_X8_182 (c_X3_hasQueuePlace hs hk (by rw [mem3 hk15]; exact hwn.1)) (ci := 3) rfl rfl rfl (hs.1 _ _ _ (by show _ ∧ _; exact ⟨by first | assumption | rfl | omega, by first | assumption | rfl | omega⟩)) rfl rfl rfl rfl ⟨Nat.le_refl _, Nat.le_refl _⟩ rfl dX8_considerHandover_111 ?_
                refine ca_top (show _ = bI (k_place nn (k_car q1 (nI n))) by rw [mem3 hk15]) ?_
                refine ca_if_eq (tgt := 128) h dX8_considerHandover_114 (by decide) (fun c_114 => ?_) (fun c_114 => ?_)
                ·
                  refine ca_iinc h dX8_considerHandover_128 rfl ik_1 rfl ?_
                  refine ca_goto (tgt := 87) h dX8_considerHandover_131 (by decide) ?_
                  refine ca_pick [2, 3, 4, 0] rfl ?_
                  exact ih_87 (n + 1) (by omega) _ (nI_1 n) (by rw [hy, k_c2, show N - (jj + 1) = n by omega, if_neg (by rw [bI_0.mp c_114]; decide)])
                ·
                  refine ca_aload_nr h dX8_considerHandover_117 rfl ?_
                  refine ca_iload h dX8_considerHandover_118 rfl ?_
                  refine ca_aload_nr h dX8_considerHandover_120 rfl ?_
                  refine gi_X8_43 h (hs.1 _ _ _ (by show _ ∧ _; exact ⟨by first | assumption | rfl | omega, by first | assumption | rfl | omega⟩)) dX8_considerHandover_121 ?_
                  refine ca_vv h hG ml_X8_185 (c_X2_makeRequest hs hk (by omega)) (ci := 2) rfl rfl rfl (hs.1 _ _ _ (by show _ ∧ _; exact ⟨by first | assumption | rfl | omega, by first | assumption | rfl | omega⟩)) rfl rfl rfl rfl ⟨Nat.le_refl _, Nat.le_refl _⟩ rfl dX8_considerHandover_124 ?_
                  refine ca_vreturn h hR dX8_considerHandover_127 ?_
                  have hem : ¬ q1 17 0 1 = 0 := by have c9 := c_81; rw [up_s] at c9; exact c9
                  exact ⟨rfl, rfl, by unfold k_ch; rw [← hq1]; dsimp only; rw [← hN, hr1]; simp only [if_false, Bool.false_eq_true, if_neg hem, hy]; rw [k_c2, show N - (jj + 1) = n by omega, if_pos (bI_n0.mp c_114)]; simp only [mem3 hk15, mem2 hk15]⟩
          refine ca_pick [1, 2, 3, 0] rfl ?_
          exact loop_87 _ 0 (Nat.zero_add _) _ rfl rfl
        ·
          refine ca_vreturn h hR dX8_considerHandover_84 ?_
          have hem : q1 17 0 1 = 0 := by have c9 := c_81; rw [up_s] at c9; exact c9
          exact ⟨rfl, rfl, by unfold k_ch; rw [← hq1]; dsimp only; rw [← hN, hr1]; simp only [if_false, Bool.false_eq_true, hem, if_true]⟩
      · exact absurd c_19 (by rw [up_s]; exact lt_no hN hn)
    | succ jj ih_11 =>
      intro n hn x3 e3 nn hwn hx mm em
      have hn1 : n < N := by omega
      subst e3 em
      refine ca_iload_n h dX8_considerHandover_11 rfl ?_
      refine ca_aload_nr h dX8_considerHandover_12 rfl ?_
      refine gs_X8_12 h hs ⟨rfl, rfl⟩ dX8_considerHandover_13 ?_
      refine gi_X8_174 h (hs.1 _ _ _ ⟨rfl, rfl⟩) dX8_considerHandover_16 ?_
      refine ca_icmp_ge (tgt := 74) h dX8_considerHandover_19 (by decide) (fun c_19 => ?_) (fun c_19 => ?_)
      · exact absurd (by rw [up_s]; exact lt_yes hN hn1) c_19
      ·
        refine ca_aload_nr h dX8_considerHandover_22 rfl ?_
        refine gs_X8_12 h hs ⟨rfl, rfl⟩ dX8_considerHandover_23 ?_
        refine ca_iload_n h dX8_considerHandover_26 rfl ?_
        refine ca_vi h hG ml_X8_57 (c_X6_cellAtRank hs) (ci := 6) rfl rfl rfl (hs.1 _ _ _ ⟨rfl, rfl⟩) rfl rfl rfl rfl ⟨Nat.le_refl _, Nat.le_refl _⟩ rfl dX8_considerHandover_27 ?_
        refine ca_top (show _ = k_car q1 (nI n) by rw [up_s]) ?_
        refine ca_istore h dX8_considerHandover_30 rfl ?_
        refine ca_aload_nr h dX8_considerHandover_32 rfl ?_
        refine ca_iload h dX8_considerHandover_33 rfl ?_
        refine ca_vi h hG ml_X8_150 (c_X3_hasFreeChannel hs hk (by rw [mem3 hk15]; exact hwn.1)) (ci := 3) rfl rfl rfl (hs.1 _ _ _ (by show _ ∧ _; exact ⟨by first | assumption | rfl | omega, by first | assumption | rfl | omega⟩)) rfl rfl rfl rfl ⟨Nat.le_refl _, Nat.le_refl _⟩ rfl dX8_considerHandover_35 ?_
        refine ca_top (show _ = bI (k_free nn (k_car q1 (nI n))) by rw [mem3 hk15]) ?_
        refine ca_if_eq (tgt := 49) h dX8_considerHandover_38 (by decide) (fun c_38 => ?_) (fun c_38 => ?_)
        ·
          refine ca_aload_nr h dX8_considerHandover_49 rfl ?_
          refine ca_aload_nr h dX8_considerHandover_50 rfl ?_
          refine gi_X8_96 h (hs.1 _ _ _ (by show _ ∧ _; exact ⟨by first | assumption | rfl | omega, by first | assumption | rfl | omega⟩)) dX8_considerHandover_51 ?_
          refine ca_iload h dX8_considerHandover_54 rfl ?_
          refine ca_vr h hG ml_X8_99 (c_X3_relationAt hs hk) (ci := 3) rfl rfl rfl (hs.1 _ _ _ (by show _ ∧ _; exact ⟨by first | assumption | rfl | omega, by first | assumption | rfl | omega⟩)) rfl rfl rfl rfl ⟨Nat.le_refl _, Nat.le_refl _⟩ rfl dX8_considerHandover_56 ?_
          refine ca_dup h dX8_considerHandover_59 rfl ?_
          refine gi_X8_176 h (hs.1 _ _ _ (vR hk (k_rx_le _ _))) dX8_considerHandover_60 ?_
          refine ca_iconst h dX8_considerHandover_63 ik_1 ?_
          refine ca_iadd h dX8_considerHandover_64 ?_
          refine pi_X8_176 h (hs.1 _ _ _ (vR hk (k_rx_le _ _))) dX8_considerHandover_65 ?_
          refine ca_iinc h dX8_considerHandover_68 rfl ik_1 rfl ?_
          refine ca_goto (tgt := 11) h dX8_considerHandover_71 (by decide) ?_
          refine ca_pick [2, 3, 4, 0] rfl ?_
          exact ih_11 (n + 1) (by omega) _ (nI_1 n) _ (k_ref_wf hwn i (k_car q1 (nI n))) (by rw [hx, k_c1, show N - (jj + 1) = n by omega, if_neg (by rw [bI_0.mp c_38]; decide)]) _ (by simp only [ch_st_nw, mem3 hk15, mem2 hk15]; rfl)
        ·
          refine ca_aload_nr h dX8_considerHandover_41 rfl ?_
          refine ca_aload_nr h dX8_considerHandover_42 rfl ?_
          refine ca_iload h dX8_considerHandover_43 rfl ?_
          refine ca_vv h hG ml_X8_161 (c_X3_handOver hs hk (by omega)) (ci := 3) rfl rfl rfl (hs.1 _ _ _ (by show _ ∧ _; exact ⟨by first | assumption | rfl | omega, by first | assumption | rfl | omega⟩)) rfl rfl rfl rfl ⟨Nat.le_refl _, Nat.le_refl _⟩ rfl dX8_considerHandover_45 ?_
          refine ca_vreturn h hR dX8_considerHandover_48 ?_
          have hr1 : k_c1 q1 i N N (μ k) = (true, k_ho nn i (k_car q1 (nI n))) := by rw [hx, k_c1, show N - (jj + 1) = n by omega, if_pos (bI_n0.mp c_38)]
          exact ⟨rfl, rfl, by unfold k_ch; rw [← hq1]; dsimp only; rw [← hN, hr1]; simp only [if_true, mem3 hk15, mem2 hk15]⟩
  refine ca_pick [1, 2, 3, 0] rfl ?_
  exact loop_11 _ 0 (Nat.zero_add _) _ rfl _ hw rfl _ rfl
set_option maxHeartbeats 100000 in
theorem c_X8_decideHandovers {l : Launch} {E : ch_E} {S : ch_S} {μ : ch_M} {k : Nat} (hs : ch_Std E S) (hk : k < 15) (hw : k_wf (μ k)) : ch_C E l yX8_decideHandovers cX8_decideHandovers 4 none 5 0 0 S μ [.ref (S.1 15 16 0), .ref (S.1 k 0 0)] (ch_F none S (up (up μ k (kf s_dc (k_mc (μ k)) (μ k, μ 15)).1) 15 (kf s_dc (k_mc (μ k)) (μ k, μ 15)).2)) := by
  refine ch_enter rfl rfl ?_
  intro X hl0 h hG hR hnm
  have h : ch_H X E RX8 cX8_decideHandovers 4 := h
  have hk15 : k ≠ 15 := by omega
  show ch_W X E 4 S μ 0 0 0 [(0, .ref (S.1 15 16 0)), (1, .ref (S.1 k 0 0))] []
  refine ca_iconst h dX8_decideHandovers_0 ik_0 ?_
  refine ca_istore_n h dX8_decideHandovers_1 rfl ?_
  have loop_2 : ∀ (jj n : Nat), n + jj = k_mc (μ k) → ∀ (x2 : Int32) (e2 : x2 = nI n) (mm : ch_M) (em : mm = up (up μ k (kf s_dc n (μ k, μ 15)).1) 15 (kf s_dc n (μ k, μ 15)).2), ch_W X E 4 S mm 0 0 2 [(0, .ref (S.1 15 16 0)), (1, .ref (S.1 k 0 0)), (2, .int x2)] [] := by
    intro jj
    induction jj with
    | zero =>
      intro n hn x2 e2 mm em
      have hn : n = k_mc (μ k) := by omega
      subst e2 em
      have hb : (kf s_dc n (μ k, μ 15)).1 0 = μ k 0 := s_dc_0 n _
      refine ca_iload_n h dX8_decideHandovers_2 rfl ?_
      refine ca_aload_nr h dX8_decideHandovers_3 rfl ?_
      refine gi_X8_61 h (hs.1 _ _ _ (by show _ ∧ _; exact ⟨by first | assumption | rfl | omega, by first | assumption | rfl | omega⟩)) dX8_decideHandovers_4 ?_
      refine ca_icmp_ge (tgt := 44) h dX8_decideHandovers_7 (by decide) (fun c_7 => ?_) (fun c_7 => ?_)
      ·
        refine ca_vreturn h hR dX8_decideHandovers_44 ?_
        exact ⟨rfl, rfl, by rw [hn]⟩
      · exact absurd c_7 (by rw [mem3 hk15, hb]; exact lt_no rfl hn)
    | succ jj ih_2 =>
      intro n hn x2 e2 mm em
      have hn1 : n < k_mc (μ k) := by omega
      subst e2 em
      have hn12 : n < 12 := Nat.lt_of_lt_of_le hn1 hw.1
      have hb : (kf s_dc n (μ k, μ 15)).1 0 = μ k 0 := s_dc_0 n _
      have hwn : k_wf (kf s_dc n (μ k, μ 15)).1 := s_dc_wf n _ hw
      refine ca_iload_n h dX8_decideHandovers_2 rfl ?_
      refine ca_aload_nr h dX8_decideHandovers_3 rfl ?_
      refine gi_X8_61 h (hs.1 _ _ _ (by show _ ∧ _; exact ⟨by first | assumption | rfl | omega, by first | assumption | rfl | omega⟩)) dX8_decideHandovers_4 ?_
      refine ca_icmp_ge (tgt := 44) h dX8_decideHandovers_7 (by decide) (fun c_7 => ?_) (fun c_7 => ?_)
      · exact absurd (by rw [mem3 hk15, hb]; exact lt_yes rfl hn1) c_7
      ·
        refine ca_aload_nr h dX8_decideHandovers_10 rfl ?_
        refine ca_iload_n h dX8_decideHandovers_11 rfl ?_
        refine ca_vr h hG ml_X8_49 (c_X3_mobileJ hs hk (by omega)) (ci := 3) rfl rfl rfl (hs.1 _ _ _ (by show _ ∧ _; exact ⟨by first | assumption | rfl | omega, by first | assumption | rfl | omega⟩)) rfl rfl rfl rfl ⟨Nat.le_refl _, Nat.le_refl _⟩ rfl dX8_decideHandovers_12 ?_
        refine ca_astore_n h dX8_decideHandovers_15 rfl ?_
        refine ca_aload_nr h dX8_decideHandovers_16 rfl ?_
        refine gi_X8_87 h (hs.1 _ _ _ (by show _ ∧ _; exact ⟨by first | assumption | rfl | omega, by first | assumption | rfl | omega⟩)) dX8_decideHandovers_17 ?_
        refine ca_iconst h dX8_decideHandovers_20 ik_1 ?_
        refine ca_icmp_ne (tgt := 38) h dX8_decideHandovers_21 (by decide) (fun c_21 => ?_) (fun c_21 => ?_)
        ·
          refine ca_iinc h dX8_decideHandovers_38 rfl ik_1 rfl ?_
          refine ca_goto (tgt := 2) h dX8_decideHandovers_41 (by decide) ?_
          refine ca_pick [2, 3, 0] rfl ?_
          have e9 : kf s_dc (n + 1) (μ k, μ 15) = _ := if_neg (fun z => c_21 (by rw [mem3 hk15]; exact z.1))
          exact ih_2 (n + 1) (by omega) _ (nI_1 n) _ (by rw [e9])
        ·
          refine ca_aload_nr h dX8_decideHandovers_24 rfl ?_
          refine gi_X8_168 h (hs.1 _ _ _ (by show _ ∧ _; exact ⟨by first | assumption | rfl | omega, by first | assumption | rfl | omega⟩)) dX8_decideHandovers_25 ?_
          refine ca_iconst h dX8_decideHandovers_28 ik_m1 ?_
          refine ca_icmp_ne (tgt := 38) h dX8_decideHandovers_29 (by decide) (fun c_29 => ?_) (fun c_29 => ?_)
          ·
            refine ca_iinc h dX8_decideHandovers_38 rfl ik_1 rfl ?_
            refine ca_goto (tgt := 2) h dX8_decideHandovers_41 (by decide) ?_
            refine ca_pick [2, 3, 0] rfl ?_
            have e9 : kf s_dc (n + 1) (μ k, μ 15) = _ := if_neg (fun z => c_29 (by rw [mem3 hk15]; exact z.2))
            exact ih_2 (n + 1) (by omega) _ (nI_1 n) _ (by rw [e9])
          ·
            refine ca_aload_nr h dX8_decideHandovers_32 rfl ?_
            refine ca_aload_nr h dX8_decideHandovers_33 rfl ?_
            refine ca_aload_nr h dX8_decideHandovers_34 rfl ?_
            refine ca_vv h hG ml_X8_171 (c_X8_considerHandover hs hk (by rw [mem3 hk15]; exact hwn) (by omega)) (ci := 8) rfl rfl rfl (hs.1 _ _ _ ⟨rfl, rfl⟩) rfl rfl rfl rfl ⟨Nat.le_refl _, Nat.le_refl _⟩ rfl dX8_decideHandovers_35 ?_
            refine ca_iinc h dX8_decideHandovers_38 rfl ik_1 rfl ?_
            refine ca_goto (tgt := 2) h dX8_decideHandovers_41 (by decide) ?_
            refine ca_pick [2, 3, 0] rfl ?_
            have e9 : kf s_dc (n + 1) (μ k, μ 15) = _ := if_pos ⟨by have c9 := c_21; rw [mem3 hk15] at c9; exact c9, by have c9 := c_29; rw [mem3 hk15] at c9; exact c9⟩
            exact ih_2 (n + 1) (by omega) _ (nI_1 n) _ (by rw [e9] <;> simp only [mem3 hk15, mem2 hk15, up_s, mem4])
  refine ca_pick [1, 2, 0] rfl ?_
  exact loop_2 _ 0 (Nat.zero_add _) _ rfl _ (by show μ = up (up μ k (μ k)) 15 (μ 15); rw [up_id, up_id])
set_option maxHeartbeats 100000 in
theorem c_X8_countCongestion {l : Launch} {E : ch_E} {S : ch_S} {μ : ch_M} {k : Nat} (hs : ch_Std E S) (hk : k < 15) (hw : k_wf (μ k)) : ch_C E l yX8_countCongestion cX8_countCongestion 3 none 4 0 0 S μ [.ref (S.1 15 16 0), .ref (S.1 k 0 0)] (ch_F none S (up μ k (kf s_cg (k_cc (μ k)) (μ k)))) := by
  refine ch_enter rfl rfl ?_
  intro X hl0 h hG hR hnm
  have h : ch_H X E RX8 cX8_countCongestion 3 := h
  show ch_W X E 3 S μ 0 0 0 [(0, .ref (S.1 15 16 0)), (1, .ref (S.1 k 0 0))] []
  refine ca_iconst h dX8_countCongestion_0 ik_0 ?_
  refine ca_istore_n h dX8_countCongestion_1 rfl ?_
  have loop_2 : ∀ (jj n : Nat), n + jj = k_cc (μ k) → ∀ (x2 : Int32) (e2 : x2 = nI n) (mm : ch_M) (em : mm = up μ k (kf s_cg n (μ k))), ch_W X E 3 S mm 0 0 2 [(0, .ref (S.1 15 16 0)), (1, .ref (S.1 k 0 0)), (2, .int x2)] [] := by
    intro jj
    induction jj with
    | zero =>
      intro n hn x2 e2 mm em
      have hn : n = k_cc (μ k) := by omega
      subst e2 em
      have hb : (kf s_cg n (μ k)) 0 = μ k 0 := kf_0 s_cg_0 n _
      have hwn : k_wf (kf s_cg n (μ k)) := kf_wf n _ (fun i m hi hm => s_cg_wf i m hm) hw
      refine ca_iload_n h dX8_countCongestion_2 rfl ?_
      refine ca_aload_nr h dX8_countCongestion_3 rfl ?_
      refine gi_X8_93 h (hs.1 _ _ _ (by show _ ∧ _; exact ⟨by first | assumption | rfl | omega, by first | assumption | rfl | omega⟩)) dX8_countCongestion_4 ?_
      refine ca_icmp_ge (tgt := 38) h dX8_countCongestion_7 (by decide) (fun c_7 => ?_) (fun c_7 => ?_)
      ·
        refine ca_vreturn h hR dX8_countCongestion_38 ?_
        exact ⟨rfl, rfl, by rw [hn]⟩
      · exact absurd c_7 (by rw [up_s, hb]; exact lt_no rfl hn)
    | succ jj ih_2 =>
      intro n hn x2 e2 mm em
      have hn1 : n < k_cc (μ k) := by omega
      subst e2 em
      have hn8 : n < 8 := Nat.lt_of_lt_of_le hn1 hw.2.1
      have hb : (kf s_cg n (μ k)) 0 = μ k 0 := kf_0 s_cg_0 n _
      have hwn : k_wf (kf s_cg n (μ k)) := kf_wf n _ (fun i m hi hm => s_cg_wf i m hm) hw
      refine ca_iload_n h dX8_countCongestion_2 rfl ?_
      refine ca_aload_nr h dX8_countCongestion_3 rfl ?_
      refine gi_X8_93 h (hs.1 _ _ _ (by show _ ∧ _; exact ⟨by first | assumption | rfl | omega, by first | assumption | rfl | omega⟩)) dX8_countCongestion_4 ?_
      refine ca_icmp_ge (tgt := 38) h dX8_countCongestion_7 (by decide) (fun c_7 => ?_) (fun c_7 => ?_)
      · exact absurd (by rw [up_s, hb]; exact lt_yes rfl hn1) c_7
      ·
        refine ca_aload_nr h dX8_countCongestion_10 rfl ?_
        refine ca_iload_n h dX8_countCongestion_11 rfl ?_
        refine ca_vi h hG ml_X8_150 (c_X3_hasFreeChannel hs hk (by rw [up_s]; exact hwn.1)) (ci := 3) rfl rfl rfl (hs.1 _ _ _ (by show _ ∧ _; exact ⟨by first | assumption | rfl | omega, by first | assumption | rfl | omega⟩)) rfl rfl rfl rfl ⟨Nat.le_refl _, Nat.le_refl _⟩ rfl dX8_countCongestion_12 ?_
        refine ca_if_ne (tgt := 32) h dX8_countCongestion_15 (by decide) (fun c_15 => ?_) (fun c_15 => ?_)
        ·
          refine ca_iinc h dX8_countCongestion_32 rfl ik_1 rfl ?_
          refine ca_goto (tgt := 2) h dX8_countCongestion_35 (by decide) ?_
          refine ca_pick [1, 2, 0] rfl ?_
          have e9 : kf s_cg (n + 1) (μ k) = _ := if_pos (by have c9 := c_15; rw [up_s] at c9; exact bI_n0.mp c9)
          exact ih_2 (n + 1) (by omega) _ (nI_1 n) _ (by rw [e9])
        ·
          refine ca_aload_nr h dX8_countCongestion_18 rfl ?_
          refine ca_iload_n h dX8_countCongestion_19 rfl ?_
          refine ca_vr h hG ml_X8_109 (c_X3_cellJ hs hk (by omega)) (ci := 3) rfl rfl rfl (hs.1 _ _ _ (by show _ ∧ _; exact ⟨by first | assumption | rfl | omega, by first | assumption | rfl | omega⟩)) rfl rfl rfl rfl ⟨Nat.le_refl _, Nat.le_refl _⟩ rfl dX8_countCongestion_20 ?_
          refine ca_dup h dX8_countCongestion_23 rfl ?_
          refine gi_X8_189 h (hs.1 _ _ _ (vC hk (by omega))) dX8_countCongestion_24 ?_
          refine ca_iconst h dX8_countCongestion_27 ik_1 ?_
          refine ca_iadd h dX8_countCongestion_28 ?_
          refine pi_X8_189 h (hs.1 _ _ _ (vC hk (by omega))) dX8_countCongestion_29 ?_
          refine ca_iinc h dX8_countCongestion_32 rfl ik_1 rfl ?_
          refine ca_goto (tgt := 2) h dX8_countCongestion_35 (by decide) ?_
          refine ca_pick [1, 2, 0] rfl ?_
          have e9 : kf s_cg (n + 1) (μ k) = _ := if_neg (by have c9 := c_15; rw [up_s] at c9; rw [bI_0.mp c9]; decide)
          exact ih_2 (n + 1) (by omega) _ (nI_1 n) _ (by rw [e9] <;> simp only [ch_st_nw, up_s, up_up])
  refine ca_pick [1, 2, 0] rfl ?_
  exact loop_2 _ 0 (Nat.zero_add _) _ rfl _ (by rw [show kf s_cg 0 (μ k) = μ k from rfl, up_id])
set_option maxHeartbeats 100000 in
theorem c_X8_expire {l : Launch} {E : ch_E} {S : ch_S} {μ : ch_M} {k i : Nat} (hs : ch_Std E S) (hk : k < 15) (hw : k_wf (μ k)) (hi : i < 13) : ch_C E l yX8_expire cX8_expire 3 none 4 0 0 S μ [.ref (S.1 15 16 0), .ref (S.1 k 0 0), .ref (S.1 k 3 i)] (ch_F none S (up μ k (k_ex (μ k) i))) := by
  refine ch_enter rfl rfl ?_
  intro X hl0 h hG hR hnm
  have h : ch_H X E RX8 cX8_expire 3 := h
  show ch_W X E 3 S μ 0 0 0 [(0, .ref (S.1 15 16 0)), (1, .ref (S.1 k 0 0)), (2, .ref (S.1 k 3 i))] []
  refine ca_aload_nr h dX8_expire_0 rfl ?_
  refine ca_bipush h dX8_expire_1 bk_7 ?_
  refine ca_vv h hG ml_X8_135 (c_X3_count (j := 7) hs hk (by decide)) (ci := 3) rfl rfl rfl (hs.1 _ _ _ (by show _ ∧ _; exact ⟨by first | assumption | rfl | omega, by first | assumption | rfl | omega⟩)) rfl rfl rfl rfl ⟨Nat.le_refl _, Nat.le_refl _⟩ rfl dX8_expire_3 ?_
  refine ca_aload_nr h dX8_expire_6 rfl ?_
  refine ca_iconst h dX8_expire_7 ik_m1 ?_
  refine pi_X8_168 h (hs.1 _ _ _ (by show _ ∧ _; exact ⟨by first | assumption | rfl | omega, by first | assumption | rfl | omega⟩)) dX8_expire_8 ?_
  refine ca_mem (μ'' := up μ k (nw (k_cnt (μ k) 7) 3 i 8 (-1))) (by simp only [ch_st_nw, up_s, up_up]) ?_
  refine ca_aload_nr h dX8_expire_11 rfl ?_
  refine gi_X8_87 h (hs.1 _ _ _ (by show _ ∧ _; exact ⟨by first | assumption | rfl | omega, by first | assumption | rfl | omega⟩)) dX8_expire_12 ?_
  refine ca_iconst h dX8_expire_15 ik_2 ?_
  refine ca_icmp_ne (tgt := 28) h dX8_expire_16 (by decide) (fun c_16 => ?_) (fun c_16 => ?_)
  ·
    refine ca_vreturn h hR dX8_expire_28 ?_
    exact ⟨rfl, rfl, by unfold k_ex; dsimp only; rw [if_neg (by have c9 := c_16; rw [up_s] at c9; exact c9)] <;> simp only [up_s, up_up]⟩
  ·
    refine ca_aload_nr h dX8_expire_19 rfl ?_
    refine ca_vv h hG ml_X8_132 (c_X2_becomeIdle hs hk hi) (ci := 2) rfl rfl rfl (hs.1 _ _ _ (by show _ ∧ _; exact ⟨by first | assumption | rfl | omega, by first | assumption | rfl | omega⟩)) rfl rfl rfl rfl ⟨Nat.le_refl _, Nat.le_refl _⟩ rfl dX8_expire_20 ?_
    refine ca_aload_nr h dX8_expire_23 rfl ?_
    refine ca_iconst h dX8_expire_24 ik_4 ?_
    refine ca_vv h hG ml_X8_135 (c_X3_count (j := 4) hs hk (by decide)) (ci := 3) rfl rfl rfl (hs.1 _ _ _ (by show _ ∧ _; exact ⟨by first | assumption | rfl | omega, by first | assumption | rfl | omega⟩)) rfl rfl rfl rfl ⟨Nat.le_refl _, Nat.le_refl _⟩ rfl dX8_expire_25 ?_
    refine ca_vreturn h hR dX8_expire_28 ?_
    exact ⟨rfl, rfl, by unfold k_ex; dsimp only; rw [if_pos (by have c9 := c_16; rw [up_s] at c9; exact c9)] <;> simp only [up_s, up_up]⟩
set_option maxHeartbeats 100000 in
theorem c_X8_expireRequests {l : Launch} {E : ch_E} {S : ch_S} {μ : ch_M} {k : Nat} (hs : ch_Std E S) (hk : k < 15) (hw : k_wf (μ k)) : ch_C E l yX8_expireRequests cX8_expireRequests 4 none 5 0 0 S μ [.ref (S.1 15 16 0), .ref (S.1 k 0 0)] (ch_F none S (up μ k (kf s_ex (k_mc (μ k)) (μ k)))) := by
  refine ch_enter rfl rfl ?_
  intro X hl0 h hG hR hnm
  have h : ch_H X E RX8 cX8_expireRequests 4 := h
  show ch_W X E 4 S μ 0 0 0 [(0, .ref (S.1 15 16 0)), (1, .ref (S.1 k 0 0))] []
  refine ca_iconst h dX8_expireRequests_0 ik_0 ?_
  refine ca_istore_n h dX8_expireRequests_1 rfl ?_
  have loop_2 : ∀ (jj n : Nat), n + jj = k_mc (μ k) → ∀ (x2 : Int32) (e2 : x2 = nI n) (mm : ch_M) (em : mm = up μ k (kf s_ex n (μ k))), ch_W X E 4 S mm 0 0 2 [(0, .ref (S.1 15 16 0)), (1, .ref (S.1 k 0 0)), (2, .int x2)] [] := by
    intro jj
    induction jj with
    | zero =>
      intro n hn x2 e2 mm em
      have hn : n = k_mc (μ k) := by omega
      subst e2 em
      have hb : (kf s_ex n (μ k)) 0 = μ k 0 := kf_0 s_ex_0 n _
      have hwn : k_wf (kf s_ex n (μ k)) := kf_wf n _ (fun i m hi hm => s_ex_wf i m hm) hw
      refine ca_iload_n h dX8_expireRequests_2 rfl ?_
      refine ca_aload_nr h dX8_expireRequests_3 rfl ?_
      refine gi_X8_61 h (hs.1 _ _ _ (by show _ ∧ _; exact ⟨by first | assumption | rfl | omega, by first | assumption | rfl | omega⟩)) dX8_expireRequests_4 ?_
      refine ca_icmp_ge (tgt := 52) h dX8_expireRequests_7 (by decide) (fun c_7 => ?_) (fun c_7 => ?_)
      ·
        refine ca_vreturn h hR dX8_expireRequests_52 ?_
        exact ⟨rfl, rfl, by rw [hn]⟩
      · exact absurd c_7 (by rw [up_s, hb]; exact lt_no rfl hn)
    | succ jj ih_2 =>
      intro n hn x2 e2 mm em
      have hn1 : n < k_mc (μ k) := by omega
      subst e2 em
      have hn12 : n < 12 := Nat.lt_of_lt_of_le hn1 hw.1
      have hb : (kf s_ex n (μ k)) 0 = μ k 0 := kf_0 s_ex_0 n _
      have hwn : k_wf (kf s_ex n (μ k)) := kf_wf n _ (fun i m hi hm => s_ex_wf i m hm) hw
      refine ca_iload_n h dX8_expireRequests_2 rfl ?_
      refine ca_aload_nr h dX8_expireRequests_3 rfl ?_
      refine gi_X8_61 h (hs.1 _ _ _ (by show _ ∧ _; exact ⟨by first | assumption | rfl | omega, by first | assumption | rfl | omega⟩)) dX8_expireRequests_4 ?_
      refine ca_icmp_ge (tgt := 52) h dX8_expireRequests_7 (by decide) (fun c_7 => ?_) (fun c_7 => ?_)
      · exact absurd (by rw [up_s, hb]; exact lt_yes rfl hn1) c_7
      ·
        refine ca_aload_nr h dX8_expireRequests_10 rfl ?_
        refine ca_iload_n h dX8_expireRequests_11 rfl ?_
        refine ca_vr h hG ml_X8_49 (c_X3_mobileJ hs hk (by omega)) (ci := 3) rfl rfl rfl (hs.1 _ _ _ (by show _ ∧ _; exact ⟨by first | assumption | rfl | omega, by first | assumption | rfl | omega⟩)) rfl rfl rfl rfl ⟨Nat.le_refl _, Nat.le_refl _⟩ rfl dX8_expireRequests_12 ?_
        refine ca_astore_n h dX8_expireRequests_15 rfl ?_
        refine ca_aload_nr h dX8_expireRequests_16 rfl ?_
        refine gi_X8_168 h (hs.1 _ _ _ (by show _ ∧ _; exact ⟨by first | assumption | rfl | omega, by first | assumption | rfl | omega⟩)) dX8_expireRequests_17 ?_
        refine ca_iconst h dX8_expireRequests_20 ik_m1 ?_
        refine ca_icmp_eq (tgt := 46) h dX8_expireRequests_21 (by decide) (fun c_21 => ?_) (fun c_21 => ?_)
        ·
          refine ca_iinc h dX8_expireRequests_46 rfl ik_1 rfl ?_
          refine ca_goto (tgt := 2) h dX8_expireRequests_49 (by decide) ?_
          refine ca_pick [2, 3, 0] rfl ?_
          have e9 : kf s_ex (n + 1) (μ k) = _ := if_pos (by have c9 := c_21; rw [up_s] at c9; exact c9)
          exact ih_2 (n + 1) (by omega) _ (nI_1 n) _ (by rw [e9] <;> simp only [up_s, up_up])
        ·
          refine ca_aload_nr h dX8_expireRequests_24 rfl ?_
          refine gi_X8_192 h (hs.1 _ _ _ (by show _ ∧ _; exact ⟨by first | assumption | rfl | omega, by first | assumption | rfl | omega⟩)) dX8_expireRequests_25 ?_
          refine ca_aload_nr h dX8_expireRequests_28 rfl ?_
          refine gi_X8_195 h (hs.1 _ _ _ (by show _ ∧ _; exact ⟨by first | assumption | rfl | omega, by first | assumption | rfl | omega⟩)) dX8_expireRequests_29 ?_
          refine ca_iadd h dX8_expireRequests_32 ?_
          refine ca_aload_nr h dX8_expireRequests_33 rfl ?_
          refine gi_X8_43 h (hs.1 _ _ _ (by show _ ∧ _; exact ⟨by first | assumption | rfl | omega, by first | assumption | rfl | omega⟩)) dX8_expireRequests_34 ?_
          refine ca_icmp_gt (tgt := 46) h dX8_expireRequests_37 (by decide) (fun c_37 => ?_) (fun c_37 => ?_)
          ·
            refine ca_iinc h dX8_expireRequests_46 rfl ik_1 rfl ?_
            refine ca_goto (tgt := 2) h dX8_expireRequests_49 (by decide) ?_
            refine ca_pick [2, 3, 0] rfl ?_
            have e9 : kf s_ex (n + 1) (μ k) = _ := if_neg (by have c9 := c_21; rw [up_s] at c9; exact c9)
            rw [if_pos (by have c9 := c_37; simp only [up_s] at c9; exact c9)] at e9
            exact ih_2 (n + 1) (by omega) _ (nI_1 n) _ (by rw [e9] <;> simp only [up_s, up_up])
          ·
            refine ca_aload_nr h dX8_expireRequests_40 rfl ?_
            refine ca_aload_nr h dX8_expireRequests_41 rfl ?_
            refine ca_aload_nr h dX8_expireRequests_42 rfl ?_
            refine ca_vv h hG ml_X8_198 (c_X8_expire hs hk (by rw [up_s]; exact hwn) (by omega)) (ci := 8) rfl rfl rfl (hs.1 _ _ _ ⟨rfl, rfl⟩) rfl rfl rfl rfl ⟨Nat.le_refl _, Nat.le_refl _⟩ rfl dX8_expireRequests_43 ?_
            refine ca_iinc h dX8_expireRequests_46 rfl ik_1 rfl ?_
            refine ca_goto (tgt := 2) h dX8_expireRequests_49 (by decide) ?_
            refine ca_pick [2, 3, 0] rfl ?_
            have e9 : kf s_ex (n + 1) (μ k) = _ := if_neg (by have c9 := c_21; rw [up_s] at c9; exact c9)
            rw [if_neg (by have c9 := c_37; simp only [up_s] at c9; exact c9)] at e9
            exact ih_2 (n + 1) (by omega) _ (nI_1 n) _ (by rw [e9] <;> simp only [up_s, up_up])
  refine ca_pick [1, 2, 0] rfl ?_
  exact loop_2 _ 0 (Nat.zero_add _) _ rfl _ (by rw [show kf s_ex 0 (μ k) = μ k from rfl, up_id])
/-- a tick, on the network and the ranking's memory; and ticks -/
def k_t1 (n : ch_N) : ch_N :=
  let n1 := kf s_mv (k_mc n) n
  let n2 := kf s_ms (k_mc n1) n1
  let n3 := kf s_fin (k_mc n2) n2
  let n4 := kf s_dr (k_mc n3) n3
  kf s_sv (k_cc n4) n4
def k_t3 (n : ch_N) : ch_N :=
  let n1 := kf s_cg (k_cc n) n
  let n2 := kf s_ex (k_mc n1) n1
  nw n2 0 0 3 (n2 0 0 3 + 1)
def k_tick (s : ch_N × ch_N) : ch_N × ch_N :=
  let n1 := k_t1 s.1
  let s2 := kf s_dc (k_mc n1) (n1, s.2)
  (k_t3 s2.1, s2.2)
def k_adv (N : Nat) (s : ch_N × ch_N) : ch_N × ch_N := kf (fun _ s => k_tick s) N s
theorem nw03_wf {n : ch_N} (h : k_wf n) (v : Int32) : k_wf (nw n 0 0 3 v) := by
  obtain ⟨a1, a2, a3, a4, a5, a6⟩ := h
  unfold k_wf k_mc k_cc at *
  simp only [nw_at]
  simp only [show ¬ (0 = 0 ∧ 0 = 0 ∧ 2 = 3) by decide, show ¬ (0 = 0 ∧ 0 = 0 ∧ 0 = 3) by decide, show ¬ (0 = 0 ∧ 0 = 0 ∧ 4 = 3) by decide, show ∀ i c, ¬ (5 = 0 ∧ i = 0 ∧ c = 3) by intro i c; omega, if_false]
  exact ⟨a1, a2, a3, a4, a5, a6⟩
theorem k_t1_wf {n : ch_N} (h : k_wf n) : k_wf (kf s_mv (k_mc n) n) ∧ k_wf (kf s_ms (k_mc (kf s_mv (k_mc n) n)) (kf s_mv (k_mc n) n)) := by
  have h1 : k_wf (kf s_mv (k_mc n) n) := kf_wf _ _ (fun i m _ hm => k_mv_wf i m hm) h
  exact ⟨h1, kf_wf _ _ (fun i m hi hm => s_ms_wf i (by have := h1.1; omega) m hm) h1⟩
theorem fin_wf {n : ch_N} (h : k_wf n) : k_wf (kf s_fin (k_mc n) n) := kf_wf _ _ (fun i m _ hm => s_fin_wf i m hm) h
theorem dr_wf {n : ch_N} (h : k_wf n) : k_wf (kf s_dr (k_mc n) n) := kf_wf _ _ (fun i m _ hm => s_dr_wf i m hm) h
theorem sv_wf {n : ch_N} (h : k_wf n) : k_wf (kf s_sv (k_cc n) n) := kf_wf _ _ (fun i m _ hm => k_svL_wf _ _ m hm) h
theorem cg_wf {n : ch_N} (h : k_wf n) : k_wf (kf s_cg (k_cc n) n) := kf_wf _ _ (fun i m _ hm => s_cg_wf i m hm) h
theorem ex_wf {n : ch_N} (h : k_wf n) : k_wf (kf s_ex (k_mc n) n) := kf_wf _ _ (fun i m _ hm => s_ex_wf i m hm) h
theorem t1_wf {n : ch_N} (h : k_wf n) : k_wf (k_t1 n) := by
  unfold k_t1
  dsimp only
  have h2 := (k_t1_wf h).2
  generalize kf s_ms (k_mc (kf s_mv (k_mc n) n)) (kf s_mv (k_mc n) n) = a2 at h2 ⊢
  have h3 := fin_wf h2
  generalize kf s_fin (k_mc a2) a2 = a3 at h3 ⊢
  have h4 := dr_wf h3
  generalize kf s_dr (k_mc a3) a3 = a4 at h4 ⊢
  exact sv_wf h4
theorem t3_wf {n : ch_N} (h : k_wf n) : k_wf (k_t3 n) := by
  unfold k_t3
  dsimp only
  have h2 := cg_wf h
  generalize kf s_cg (k_cc n) n = a2 at h2 ⊢
  have h3 := ex_wf h2
  generalize kf s_ex (k_mc a2) a2 = a3 at h3 ⊢
  exact nw03_wf h3 _
theorem k_tick_wf {s : ch_N × ch_N} (h : k_wf s.1) : k_wf (k_tick s).1 := by
  have h1 := t1_wf h
  obtain ⟨a, b⟩ := s
  unfold k_tick
  dsimp only at h1 ⊢
  generalize k_t1 a = a1 at h1 ⊢
  have h2 := s_dc_wf (k_mc a1) (a1, b) h1
  generalize kf s_dc (k_mc a1) (a1, b) = s2 at h2 ⊢
  exact t3_wf h2
theorem k_adv_wf : ∀ (N : Nat) (s : ch_N × ch_N), k_wf s.1 → k_wf (k_adv N s).1
  | 0, _, h => h
  | N + 1, s, h => k_tick_wf (k_adv_wf N s h)
set_option maxHeartbeats 100000 in
theorem c_X8_advance {l : Launch} {E : ch_E} {S : ch_S} {μ : ch_M} {k : Nat} (hs : ch_Std E S) (hk : k < 15) (hw : k_wf (μ k)) {T : Int32} : ch_C E l yX8_advance cX8_advance 4 none 6 0 0 S μ [.ref (S.1 15 16 0), .ref (S.1 k 0 0), .int T] (ch_F none S (up (up μ k (k_adv (Int32.toNatClampNeg T) (μ k, μ 15)).1) 15 (k_adv (Int32.toNatClampNeg T) (μ k, μ 15)).2)) := by
  refine ch_enter rfl rfl ?_
  intro X hl0 h hG hR hnm
  have h : ch_H X E RX8 cX8_advance 4 := h
  have hk15 : k ≠ 15 := by omega
  show ch_W X E 4 S μ 0 0 0 [(0, .ref (S.1 15 16 0)), (1, .ref (S.1 k 0 0)), (2, .int T)] []
  refine ca_iconst h dX8_advance_0 ik_0 ?_
  refine ca_istore_n h dX8_advance_1 rfl ?_
  have loop_2 : ∀ (jj n : Nat), n + jj = Int32.toNatClampNeg T → ∀ (x3 : Int32) (e3 : x3 = nI n) (mm : ch_M) (em : mm = up (up μ k (k_adv n (μ k, μ 15)).1) 15 (k_adv n (μ k, μ 15)).2), ch_W X E 4 S mm 0 0 2 [(0, .ref (S.1 15 16 0)), (1, .ref (S.1 k 0 0)), (2, .int T), (3, .int x3)] [] := by
    intro jj
    induction jj with
    | zero =>
      intro n hn x3 e3 mm em
      have hn : n = Int32.toNatClampNeg T := by omega
      subst e3 em
      refine ca_iload_n h dX8_advance_2 rfl ?_
      refine ca_iload_n h dX8_advance_3 rfl ?_
      refine ca_icmp_ge (tgt := 63) h dX8_advance_4 (by decide) (fun c_4 => ?_) (fun c_4 => ?_)
      ·
        refine ca_vreturn h hR dX8_advance_63 ?_
        exact ⟨rfl, rfl, by rw [hn]⟩
      · exact absurd c_4 (lt_no rfl hn)
    | succ jj ih_2 =>
      intro n hn x3 e3 mm em
      have hn1 : n < Int32.toNatClampNeg T := by omega
      subst e3 em
      obtain ⟨a, ha⟩ : ∃ z, z = (k_adv n (μ k, μ 15)).1 := ⟨_, rfl⟩
      obtain ⟨b, hb⟩ : ∃ z, z = (k_adv n (μ k, μ 15)).2 := ⟨_, rfl⟩
      have hab : k_adv n (μ k, μ 15) = (a, b) := by rw [ha, hb]
      have hw0 : k_wf a := by rw [ha]; exact k_adv_wf n _ hw
      obtain ⟨a1, ha1⟩ : ∃ z, z = kf s_mv (k_mc a) a := ⟨_, rfl⟩
      obtain ⟨a2, ha2⟩ : ∃ z, z = kf s_ms (k_mc a1) a1 := ⟨_, rfl⟩
      obtain ⟨a3, ha3⟩ : ∃ z, z = kf s_fin (k_mc a2) a2 := ⟨_, rfl⟩
      obtain ⟨a4, ha4⟩ : ∃ z, z = kf s_dr (k_mc a3) a3 := ⟨_, rfl⟩
      obtain ⟨a5, ha5⟩ : ∃ z, z = kf s_sv (k_cc a4) a4 := ⟨_, rfl⟩
      obtain ⟨a6, ha6⟩ : ∃ z, z = (kf s_dc (k_mc a5) (a5, b)).1 := ⟨_, rfl⟩
      obtain ⟨b6, hb6⟩ : ∃ z, z = (kf s_dc (k_mc a5) (a5, b)).2 := ⟨_, rfl⟩
      obtain ⟨a7, ha7⟩ : ∃ z, z = kf s_cg (k_cc a6) a6 := ⟨_, rfl⟩
      obtain ⟨a8, ha8⟩ : ∃ z, z = kf s_ex (k_mc a7) a7 := ⟨_, rfl⟩
      have hw1 : k_wf a1 := by rw [ha1]; exact (k_t1_wf hw0).1
      have hw2 : k_wf a2 := by rw [ha2, ha1]; exact (k_t1_wf hw0).2
      have hw3 : k_wf a3 := by rw [ha3]; exact fin_wf hw2
      have hw4 : k_wf a4 := by rw [ha4]; exact dr_wf hw3
      have hw5 : k_wf a5 := by rw [ha5]; exact sv_wf hw4
      have hw6 : k_wf a6 := by rw [ha6]; exact s_dc_wf _ _ hw5
      have hw7 : k_wf a7 := by rw [ha7]; exact cg_wf hw6
      rw [← ha, ← hb]
      refine ca_iload_n h dX8_advance_2 rfl ?_
      refine ca_iload_n h dX8_advance_3 rfl ?_
      refine ca_icmp_ge (tgt := 63) h dX8_advance_4 (by decide) (fun c_4 => ?_) (fun c_4 => ?_)
      · exact absurd (lt_yes rfl hn1) c_4
      ·
        refine ca_aload_nr h dX8_advance_7 rfl ?_
        refine ca_aload_nr h dX8_advance_8 rfl ?_
        refine ca_vv h hG ml_X8_18 (c_X8_moveMobiles hs hk (by rw [mem3 hk15]; exact hw0)) (ci := 8) rfl rfl rfl (hs.1 _ _ _ ⟨rfl, rfl⟩) rfl rfl rfl rfl ⟨Nat.le_refl _, Nat.le_refl _⟩ rfl dX8_advance_9 ?_
        refine ca_mem (μ'' := up (up μ k a1) 15 b) (by rw [mem3 hk15, mem2 hk15, ha1]) ?_
        refine ca_aload_nr h dX8_advance_12 rfl ?_
        refine ca_aload_nr h dX8_advance_13 rfl ?_
        refine ca_vv h hG ml_X8_22 (c_X8_measureLevels hs hk (by rw [mem3 hk15]; exact hw1)) (ci := 8) rfl rfl rfl (hs.1 _ _ _ ⟨rfl, rfl⟩) rfl rfl rfl rfl ⟨Nat.le_refl _, Nat.le_refl _⟩ rfl dX8_advance_14 ?_
        refine ca_mem (μ'' := up (up μ k a2) 15 b) (by rw [mem3 hk15, mem2 hk15, ha2]) ?_
        refine ca_aload_nr h dX8_advance_17 rfl ?_
        refine ca_aload_nr h dX8_advance_18 rfl ?_
        refine ca_vv h hG ml_X8_25 (c_X8_completeCalls hs hk (by rw [mem3 hk15]; exact hw2)) (ci := 8) rfl rfl rfl (hs.1 _ _ _ ⟨rfl, rfl⟩) rfl rfl rfl rfl ⟨Nat.le_refl _, Nat.le_refl _⟩ rfl dX8_advance_19 ?_
        refine ca_mem (μ'' := up (up μ k a3) 15 b) (by rw [mem3 hk15, mem2 hk15, ha3]) ?_
        refine ca_aload_nr h dX8_advance_22 rfl ?_
        refine ca_aload_nr h dX8_advance_23 rfl ?_
        refine ca_vv h hG ml_X8_28 (c_X8_dropCalls hs hk (by rw [mem3 hk15]; exact hw3)) (ci := 8) rfl rfl rfl (hs.1 _ _ _ ⟨rfl, rfl⟩) rfl rfl rfl rfl ⟨Nat.le_refl _, Nat.le_refl _⟩ rfl dX8_advance_24 ?_
        refine ca_mem (μ'' := up (up μ k a4) 15 b) (by rw [mem3 hk15, mem2 hk15, ha4]) ?_
        refine ca_aload_nr h dX8_advance_27 rfl ?_
        refine ca_aload_nr h dX8_advance_28 rfl ?_
        refine ca_vv h hG ml_X8_31 (c_X8_serveQueues hs hk (by rw [mem3 hk15]; exact hw4)) (ci := 8) rfl rfl rfl (hs.1 _ _ _ ⟨rfl, rfl⟩) rfl rfl rfl rfl ⟨Nat.le_refl _, Nat.le_refl _⟩ rfl dX8_advance_29 ?_
        refine ca_mem (μ'' := up (up μ k a5) 15 b) (by rw [mem3 hk15, mem2 hk15, ha5]) ?_
        refine ca_aload_nr h dX8_advance_32 rfl ?_
        refine ca_aload_nr h dX8_advance_33 rfl ?_
        refine ca_vv h hG ml_X8_34 (c_X8_decideHandovers hs hk (by rw [mem3 hk15]; exact hw5)) (ci := 8) rfl rfl rfl (hs.1 _ _ _ ⟨rfl, rfl⟩) rfl rfl rfl rfl ⟨Nat.le_refl _, Nat.le_refl _⟩ rfl dX8_advance_34 ?_
        refine ca_mem (μ'' := up (up μ k a6) 15 b6) (by rw [mem3 hk15, mem2 hk15, up_s, mem4, ha6, hb6]) ?_
        refine ca_aload_nr h dX8_advance_37 rfl ?_
        refine ca_aload_nr h dX8_advance_38 rfl ?_
        refine ca_vv h hG ml_X8_37 (c_X8_countCongestion hs hk (by rw [mem3 hk15]; exact hw6)) (ci := 8) rfl rfl rfl (hs.1 _ _ _ ⟨rfl, rfl⟩) rfl rfl rfl rfl ⟨Nat.le_refl _, Nat.le_refl _⟩ rfl dX8_advance_39 ?_
        refine ca_mem (μ'' := up (up μ k a7) 15 b6) (by rw [mem3 hk15, mem2 hk15, ha7]) ?_
        refine ca_aload_nr h dX8_advance_42 rfl ?_
        refine ca_aload_nr h dX8_advance_43 rfl ?_
        refine ca_vv h hG ml_X8_40 (c_X8_expireRequests hs hk (by rw [mem3 hk15]; exact hw7)) (ci := 8) rfl rfl rfl (hs.1 _ _ _ ⟨rfl, rfl⟩) rfl rfl rfl rfl ⟨Nat.le_refl _, Nat.le_refl _⟩ rfl dX8_advance_44 ?_
        refine ca_mem (μ'' := up (up μ k a8) 15 b6) (by rw [mem3 hk15, mem2 hk15, ha8]) ?_
        refine ca_aload_nr h dX8_advance_47 rfl ?_
        refine ca_dup h dX8_advance_48 rfl ?_
        refine gi_X8_43 h (hs.1 _ _ _ (by show _ ∧ _; exact ⟨by first | assumption | rfl | omega, by first | assumption | rfl | omega⟩)) dX8_advance_49 ?_
        refine ca_iconst h dX8_advance_52 ik_1 ?_
        refine ca_iadd h dX8_advance_53 ?_
        refine pi_X8_43 h (hs.1 _ _ _ (by show _ ∧ _; exact ⟨by first | assumption | rfl | omega, by first | assumption | rfl | omega⟩)) dX8_advance_54 ?_
        refine ca_iinc h dX8_advance_57 rfl ik_1 rfl ?_
        refine ca_goto (tgt := 2) h dX8_advance_60 (by decide) ?_
        refine ca_pick [1, 2, 3, 0] rfl ?_
        have e9 : k_adv (n + 1) (μ k, μ 15) = k_tick (k_adv n (μ k, μ 15)) := rfl
        have e8 : k_tick (a, b) = (nw a8 0 0 3 (a8 0 0 3 + 1), b6) := by
          unfold k_tick k_t1 k_t3
          dsimp only
          rw [← ha1, ← ha2, ← ha3, ← ha4, ← ha5, ← ha6, ← hb6, ← ha7, ← ha8]
        exact ih_2 (n + 1) (by omega) _ (nI_1 n) _ (by rw [e9, hab, e8]; simp only [ch_st_nw, mem3 hk15, mem2 hk15])
  refine ca_pick [1, 2, 3, 0] rfl ?_
  exact loop_2 _ 0 (Nat.zero_add _) _ rfl _ (by show μ = up (up μ k (μ k)) 15 (μ 15); rw [up_id, up_id])
set_option maxHeartbeats 100000 in
theorem c_X8_candidateAt {l : Launch} {E : ch_E} {S : ch_S} {μ : ch_M} {k : Nat} (hs : ch_Std E S) (hk : k < 15) (hw : k_wf (μ k)) {m x : Int32} : ch_C E l yX8_candidateAt cX8_candidateAt 4 (some FieldType.int) 4 0 0 S μ [.ref (S.1 15 16 0), .ref (S.1 k 0 0), .int m, .int x] (ch_F (some (.int (k_car (k_rank (μ k) (μ 15) (k_ix 12 12 m)) x))) S (up μ 15 (k_rank (μ k) (μ 15) (k_ix 12 12 m)))) := by
  refine ch_enter rfl rfl ?_
  intro X hl0 h hG hR hnm
  have h : ch_H X E RX8 cX8_candidateAt 4 := h
  show ch_W X E 4 S μ 0 0 0 [(0, .ref (S.1 15 16 0)), (1, .ref (S.1 k 0 0)), (2, .int m), (3, .int x)] []
  refine ca_aload_nr h dX8_candidateAt_0 rfl ?_
  refine gs_X8_12 h hs ⟨rfl, rfl⟩ dX8_candidateAt_1 ?_
  refine ca_aload_nr h dX8_candidateAt_4 rfl ?_
  refine ca_aload_nr h dX8_candidateAt_5 rfl ?_
  refine ca_iload_n h dX8_candidateAt_6 rfl ?_
  refine ca_vr h hG ml_X8_49 (c_X3_mobileAt hs hk) (ci := 3) rfl rfl rfl (hs.1 _ _ _ (by show _ ∧ _; exact ⟨by first | assumption | rfl | omega, by first | assumption | rfl | omega⟩)) rfl rfl rfl rfl ⟨Nat.le_refl _, Nat.le_refl _⟩ rfl dX8_candidateAt_7 ?_
  refine ca_vv h hG ml_X8_53 (c_X6_rank hs hk hw (k_ixm _)) (ci := 6) rfl rfl rfl (hs.1 _ _ _ ⟨rfl, rfl⟩) rfl rfl rfl rfl ⟨Nat.le_refl _, Nat.le_refl _⟩ rfl dX8_candidateAt_10 ?_
  refine ca_aload_nr h dX8_candidateAt_13 rfl ?_
  refine gs_X8_12 h hs ⟨rfl, rfl⟩ dX8_candidateAt_14 ?_
  refine ca_iload_n h dX8_candidateAt_17 rfl ?_
  refine ca_vi h hG ml_X8_57 (c_X6_cellAtRank hs) (ci := 6) rfl rfl rfl (hs.1 _ _ _ ⟨rfl, rfl⟩) rfl rfl rfl rfl ⟨Nat.le_refl _, Nat.le_refl _⟩ rfl dX8_candidateAt_18 ?_
  refine ca_top (show _ = k_car (k_rank (μ k) (μ 15) (k_ix 12 12 m)) x by rw [up_s]) ?_
  refine ca_ireturn h hR rfl dX8_candidateAt_21 ?_
  exact ⟨rfl, rfl, rfl⟩
