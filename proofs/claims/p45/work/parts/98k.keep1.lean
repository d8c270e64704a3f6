theorem k_bar_ne {n : ch_N} {i kd : Nat} {x t : Int32} (h : kd ≠ 6) : k_bar n i x t kd = n kd := by
  unfold k_bar
  split
  · rfl
  · split
    · exact nw_k h
    · rfl
section HO
variable (n : ch_N) (i : Nat) (t : Int32)
theorem ho_ne {kd : Nat} (h2 : kd ≠ 2) (h3 : kd ≠ 3) (h6 : kd ≠ 6) (h7 : kd ≠ 7) : k_ho n i t kd = n kd := by
  unfold k_ho
  rw [k_cnt_k _ 0 h7, nw_k h2, nw_k h3, nw_k h3, nw_k h3, k_bar_ne h6]
  split
  · exact k_cnt_k _ 1 h7
  · rfl
theorem ho_3 (j f : Nat) : k_ho n i t 3 j f = if j = i ∧ f = 8 then -1 else if j = i ∧ f = 7 then 0 else if j = i ∧ f = 5 then t else n 3 j f := by
  have hb : (if k_isb n i t (n 0 0 3) = true then k_cnt n 1 else n) 3 = n 3 := by split <;> first | exact k_cnt_3 _ _ | rfl
  unfold k_ho
  rw [k_cnt_3, nw_k (by decide), nw_at, nw_at, nw_at, k_bar_3, hb]
  simp only [true_and]
theorem ho_2 (r f : Nat) : k_ho n i t 2 r f = if r = k_rx (n 3 i 5) t ∧ f = 2 then n 2 r 2 + 1 else n 2 r f := by
  have hb : (if k_isb n i t (n 0 0 3) = true then k_cnt n 1 else n) 2 = n 2 := by split <;> first | exact k_cnt_k _ 1 (by decide) | rfl
  unfold k_ho
  rw [k_cnt_k _ 0 (by decide), nw_at, nw_k (by decide), nw_k (by decide), nw_k (by decide), k_bar_ne (by decide), hb]
  by_cases e : r = k_rx (n 3 i 5) t ∧ f = 2
  · rw [if_pos ⟨rfl, e⟩, if_pos e, e.1]
  · rw [if_neg (fun z => e z.2), if_neg e]
theorem ho_7 (k : Nat) : k_ho n i t 7 0 k = if k = 0 then n 7 0 0 + 1 else if k = 1 ∧ k_isb n i t (n 0 0 3) = true then n 7 0 1 + 1 else n 7 0 k := by
  have hb : ∀ k, (if k_isb n i t (n 0 0 3) = true then k_cnt n 1 else n) 7 0 k = if k = 1 ∧ k_isb n i t (n 0 0 3) = true then n 7 0 1 + 1 else n 7 0 k := fun k => by
    by_cases c : k_isb n i t (n 0 0 3) = true
    · rw [if_pos c]
      unfold k_cnt
      rw [nw_at]
      by_cases e : k = 1
      · rw [if_pos ⟨rfl, rfl, e⟩, if_pos ⟨e, c⟩]
      · rw [if_neg (fun z => e z.2.2), if_neg (fun z => e z.1)]
    · rw [if_neg c, if_neg (fun z => c z.2)]
  unfold k_ho
  unfold k_cnt at hb ⊢
  rw [nw_at]
  simp only [nw_k (show (7 : Nat) ≠ 2 by decide), nw_k (show (7 : Nat) ≠ 3 by decide), k_bar_ne (show (7 : Nat) ≠ 6 by decide), hb]
  by_cases e : k = 0
  · subst e; simp
  · simp [e]
end HO
/-! each step of the model keeps it -/
theorem s_A_cnt {X : Nat} {n : ch_N} (h : s_A X n) {t : Nat} (ht : t ≠ 0 ∧ t ≠ 1 ∧ t ≠ 5) : s_A X (k_cnt n t) := by
  have e : ∀ k, k ≠ t → k_cnt n t 7 0 k = n 7 0 k := fun k hk => by unfold k_cnt; rw [nw_at, if_neg (fun z => hk z.2.2)]
  exact s_A_cg h (k_cnt_0 n t) (fun c => by rw [k_cnt_k n t (by decide)]; exact ⟨rfl, rfl⟩) (fun r => by rw [k_cnt_k n t (by decide)]; exact ⟨rfl, rfl⟩) (fun i => by rw [k_cnt_3]; exact ⟨Or.inl ⟨rfl, rfl⟩, Or.inl rfl⟩) ⟨e 0 ht.1.symm, e 1 ht.2.1.symm, e 5 ht.2.2.symm⟩
theorem s_A_3 {X : Nat} {n : ch_N} (h : s_A X n) {i f : Nat} {v : Int32} (hf : f ≠ 4 ∧ f ≠ 5 ∧ f ≠ 8) : s_A X (nw n 3 i f v) := by
  have e : ∀ g j, g ≠ f → nw n 3 i f v 3 j g = n 3 j g := fun g j hg => by rw [nw_at, if_neg (fun z => hg z.2.2)]
  exact s_A_cg h (nw_k (by decide)) (fun c => by rw [nw_k (by decide)]; exact ⟨rfl, rfl⟩) (fun r => by rw [nw_k (by decide)]; exact ⟨rfl, rfl⟩) (fun j => ⟨Or.inl ⟨e 4 j hf.1.symm, e 5 j hf.2.1.symm⟩, Or.inl (e 8 j hf.2.2.symm)⟩) (by rw [nw_k (by decide)]; exact ⟨rfl, rfl, rfl⟩)
theorem s_A_8 {X : Nat} {n : ch_N} (h : s_A X n) {i : Nat} : s_A X (nw n 3 i 8 (-1)) := by
  have e : ∀ g j, g ≠ 8 → nw n 3 i 8 (-1) 3 j g = n 3 j g := fun g j hg => by rw [nw_at, if_neg (fun z => hg z.2.2)]
  refine s_A_cg h (nw_k (by decide)) (fun c => by rw [nw_k (by decide)]; exact ⟨rfl, rfl⟩) (fun r => by rw [nw_k (by decide)]; exact ⟨rfl, rfl⟩) (fun j => ⟨Or.inl ⟨e 4 j (by decide), e 5 j (by decide)⟩, ?_⟩) (by rw [nw_k (by decide)]; exact ⟨rfl, rfl, rfl⟩)
  by_cases ej : j = i
  · exact Or.inr (by rw [nw_at, if_pos ⟨rfl, ej, rfl⟩])
  · exact Or.inl (by rw [nw_at, if_neg (fun z => ej z.2.1)])
theorem idle_3 (n : ch_N) (i j f : Nat) : (f = 4 ∨ f = 5 ∨ f = 8) → k_idle n i 3 j f = if j = i then (if f = 4 then 0 else -1) else n 3 j f := by
  intro hf
  unfold k_idle k_clr
  rw [na_k (by decide), na_k (by decide), nw_at, nw_at, nw_at, nw_at, nw_at, nw_at]
  by_cases e : j = i
  · rcases hf with rfl | rfl | rfl <;> simp [e]
  · simp [e]
theorem s_A_idle {X : Nat} {n : ch_N} (h : s_A X n) (i : Nat) : s_A X (k_idle n i) := by
  have ei : ∀ kd, kd ≠ 3 → kd ≠ 5 → kd ≠ 6 → k_idle n i kd = n kd := fun kd a b c => k_idle_ne a b c
  refine s_A_cg h (ei 0 (by decide) (by decide) (by decide)) (fun c => by rw [ei 1 (by decide) (by decide) (by decide)]; exact ⟨rfl, rfl⟩) (fun r => by rw [ei 2 (by decide) (by decide) (by decide)]; exact ⟨rfl, rfl⟩) (fun j => ?_) (by rw [ei 7 (by decide) (by decide) (by decide)]; exact ⟨rfl, rfl, rfl⟩)
  rw [idle_3 n i j 4 (Or.inl rfl), idle_3 n i j 5 (Or.inr (Or.inl rfl)), idle_3 n i j 8 (Or.inr (Or.inr rfl))]
  by_cases e : j = i
  · rw [if_pos e, if_pos e, if_pos e]; exact ⟨Or.inr (by decide), Or.inr rfl⟩
  · rw [if_neg e, if_neg e, if_neg e]; exact ⟨Or.inl ⟨rfl, rfl⟩, Or.inl rfl⟩
theorem beg_3 (n : ch_N) (i j f : Nat) (c : Int32) : (f = 4 ∨ f = 5 ∨ f = 8) → k_beg n i c 3 j f = if j = i then (if f = 4 then 1 else if f = 5 then c else -1) else n 3 j f := by
  intro hf
  unfold k_beg k_clr
  rw [na_k (by decide), na_k (by decide), nw_at, nw_at, nw_at, nw_at]
  by_cases e : j = i
  · rcases hf with rfl | rfl | rfl <;> simp [e]
  · simp [e]
theorem s_A_beg {X : Nat} {n : ch_N} (h : s_A X n) (i : Nat) {c : Nat} (hc : c < k_cc n) (hfr : k_free n (nI c) = true) : s_A X (k_beg n i (nI c)) := by
  have ei : ∀ kd, kd ≠ 3 → kd ≠ 5 → kd ≠ 6 → k_beg n i (nI c) kd = n kd := fun kd a b c => k_beg_ne a b c
  have ec := k_cc_0 (ei 0 (by decide) (by decide) (by decide))
  refine s_A_up (i := i) h hc hfr (ei 0 (by decide) (by decide) (by decide)) (fun c => by rw [ei 1 (by decide) (by decide) (by decide)]; exact ⟨rfl, rfl⟩) (fun r => by rw [ei 2 (by decide) (by decide) (by decide)]) (fun j hj => ?_) ?_ ?_ ?_ ?_ ?_
  · rw [beg_3 n i j 4 _ (Or.inl rfl), beg_3 n i j 5 _ (Or.inr (Or.inl rfl)), beg_3 n i j 8 _ (Or.inr (Or.inr rfl)), if_neg hj, if_neg hj, if_neg hj]; exact ⟨rfl, rfl, rfl⟩
  · rw [beg_3 n i i 5 _ (Or.inr (Or.inl rfl)), if_pos rfl]; rfl
  · rw [beg_3 n i i 8 _ (Or.inr (Or.inr rfl)), if_pos rfl]; rfl
  · rw [ec, s_sa_cg (fun r => by rw [ei 2 (by decide) (by decide) (by decide)]) ec, ei 7 (by decide) (by decide) (by decide)]; exact h.2.2.2.1
  · rw [ei 7 (by decide) (by decide) (by decide)]; exact h.2.2.2.2.1
  · rw [ei 2 (by decide) (by decide) (by decide)]; exact h.2.2.2.2.2.1
theorem s_A_ho {X : Nat} {n : ch_N} (h : s_A X n) {i : Nat} (hi : i < k_mc n) (ht : n 3 i 4 = 1) {c : Nat} (hc : c < k_cc n) (hfr : k_free n (nI c) = true) : s_A (X + 1) (k_ho n i (nI c)) := by
  obtain ⟨s, hs, h5⟩ := h.2.2.2.2.2.2.1 i hi ht
  have h8 := h.1.2
  have e0 : k_ho n i (nI c) 0 = n 0 := k_ho_0 n i (nI c)
  have ec := k_cc_0 e0
  have erx : k_rx (n 3 i 5) (nI c) = 8 * s + c := by rw [h5, r_rx (by omega) (by omega)]
  have e2 : ∀ r, k_ho n i (nI c) 2 r 2 = if r = 8 * s + c then n 2 r 2 + 1 else n 2 r 2 := fun r => by
    rw [ho_2, erx]
    by_cases e : r = 8 * s + c
    · rw [if_pos ⟨e, rfl⟩, if_pos e]
    · rw [if_neg (fun z => e z.1), if_neg e]
  obtain ⟨x, y, z, ex, ey, ez, hyx, hX⟩ := h.2.2.2.2.1
  have e1 := ho_ne n i (nI c) (kd := 1) (by decide) (by decide) (by decide) (by decide)
  refine s_A_up (i := i) h hc hfr e0 (fun c => by rw [e1]; exact ⟨rfl, rfl⟩) (fun r => by rw [ho_2, if_neg (fun z => absurd z.2 (by decide))]) (fun j hj => ?_) ?_ ?_ ?_ ?_ (fun r hr => ?_)
  · simp [ho_3, hj]
  · simp [ho_3]
  · simp [ho_3]
  · rw [ec, s_sa_1 h8 hc ec e2, if_pos hs, h.2.2.2.1, ho_7, if_pos rfl]
  · by_cases b : k_isb n i (nI c) (n 0 0 3) = true
    · exact ⟨x + 1, y + 1, z, by rw [ho_7, if_pos rfl, ex, nI_1], by rw [ho_7, if_neg (by decide), if_pos ⟨rfl, b⟩, ey, nI_1], by rw [ho_7, if_neg (by decide), if_neg (fun z => absurd z.1 (by decide)), ez], by omega, by omega⟩
    · exact ⟨x + 1, y, z, by rw [ho_7, if_pos rfl, ex, nI_1], by rw [ho_7, if_neg (by decide), if_neg (fun z => b z.2), ey], by rw [ho_7, if_neg (by decide), if_neg (fun z => absurd z.1 (by decide)), ez], by omega, by omega⟩
  · obtain ⟨v, ev, hv⟩ := h.2.2.2.2.2.1 r hr
    rw [e2]
    by_cases e : r = 8 * s + c
    · rw [if_pos e]; exact ⟨v + 1, by rw [ev, nI_1], by omega⟩
    · rw [if_neg e]; exact ⟨v, ev, by omega⟩
theorem s_A_mrq {X : Nat} {n : ch_N} (h : s_A X n) (i : Nat) {c : Nat} {v : Int32} (hc : c < k_cc n) (hpl : k_place n (nI c) = true) : s_A X (k_mrq n i (nI c) v) := by
  have e3 : ∀ j f, k_mrq n i (nI c) v 3 j f = if j = i ∧ f = 9 then v else if j = i ∧ f = 8 then nI c else n 3 j f := fun j f => by unfold k_mrq; rw [nw_at, nw_at]; simp only [true_and]
  refine s_A_wt (i := i) h hc hpl (k_mrq_ne (by decide)) (fun c => by rw [k_mrq_ne (by decide)]; exact ⟨rfl, rfl⟩) (fun r => by rw [k_mrq_ne (by decide)]; exact ⟨rfl, rfl⟩) (fun j hj => by simp [e3, hj]) (Or.inl (by simp [e3])) (by simp [e3]) (by rw [k_mrq_ne (by decide)]; exact ⟨rfl, rfl, rfl⟩)
theorem s_A_wfs {X : Nat} {n : ch_N} (h : s_A X n) (i : Nat) {c : Nat} {v : Int32} (hc : c < k_cc n) (hpl : k_place n (nI c) = true) : s_A X (k_wfs n i (nI c) v) := by
  have e3 : ∀ j f, k_wfs n i (nI c) v 3 j f = if j = i ∧ f = 9 then v else if j = i ∧ f = 8 then nI c else if j = i ∧ f = 4 then 2 else n 3 j f := fun j f => by unfold k_wfs k_mrq; rw [nw_at, nw_at, nw_at]; simp only [true_and]
  refine s_A_wt (i := i) h hc hpl (k_wfs_ne (by decide)) (fun c => by rw [k_wfs_ne (by decide)]; exact ⟨rfl, rfl⟩) (fun r => by rw [k_wfs_ne (by decide)]; exact ⟨rfl, rfl⟩) (fun j hj => by simp [e3, hj]) (Or.inr (by simp [e3])) (by simp [e3]) (by rw [k_wfs_ne (by decide)]; exact ⟨rfl, rfl, rfl⟩)
theorem s_A_ref {X : Nat} {n : ch_N} (h : s_A X n) (i : Nat) (c : Int32) : s_A X (k_ref n i c) := by
  have e2 : ∀ r f, f ≠ 3 → k_ref n i c 2 r f = n 2 r f := fun r f hf => by unfold k_ref; rw [nw_at, if_neg (fun z => hf z.2.2)]
  refine s_A_cg h (k_ref_ne (by decide)) (fun c => by rw [k_ref_ne (by decide)]; exact ⟨rfl, rfl⟩) (fun r => ⟨e2 r 1 (by decide), e2 r 2 (by decide)⟩) (fun j => by rw [k_ref_ne (by decide)]; exact ⟨Or.inl ⟨rfl, rfl⟩, Or.inl rfl⟩) (by rw [k_ref_ne (by decide)]; exact ⟨rfl, rfl, rfl⟩)
