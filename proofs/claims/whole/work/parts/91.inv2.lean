/-! THE INVARIANT of class and reference -/
def k_ring (μ : ch_M) (p u : Nat) : Nat → ch_N := fun i => μ (3 + (p + 12 - u + i) % 12)
def k_Iv (μ : ch_M) (u p : Nat) : Prop := p < 12 ∧ u ≤ 12 ∧ μ 15 14 0 0 = nI u ∧ μ 15 14 0 1 = nI p ∧ r_J (μ 0) (μ 2) (μ 15) (μ 15 11 0 7) u (k_ring μ p u) (μ 16) ∧ ∀ k, k < 15 → k_c8 (μ k) ∧ k_G (μ k)
def k_INV (μ : ch_M) : Prop := ∃ u p, k_Iv μ u p
theorem r_J_gen {n n' sn sn' tx tx' : ch_N} {F : Int32} {u : Nat} {hs hs' : Nat → ch_N} {p : ch_N} (h : r_J n sn tx F u hs p) (hn : ∀ w, r_N n w → r_N n' w) (hsn : F = 1 → ∀ w, r_N sn w → r_N sn' w) (t0 : tx' 12 0 0 = tx 12 0 0) (t2 : tx' 12 0 2 = tx 12 0 2) (t13 : tx' 13 0 = tx 13 0) (hh : ∀ i, i < u → ∀ w, r_N (hs i) w → r_N (hs' i) w) : r_J n' sn' tx' F u hs' p := by
  obtain ⟨a, ⟨b1, b2, b3⟩, ⟨c1, c2, c3⟩, ⟨L, d1, d2, d3, d4, d5⟩⟩ := h
  exact ⟨hn _ a, ⟨b1, b2, fun z => hsn z _ (b3 z)⟩, ⟨c1, c2, fun i hi => hh i hi _ (c3 i hi)⟩, ⟨L, d1, by rw [t0]; exact d2, d3, fun i hi => by rw [t13]; exact d4 i hi, by rw [t2]; exact d5⟩⟩
theorem k_Iv_of {μ' : ch_M} {u p : Nat} {n sn tx : ch_N} {F : Int32} {hs : Nat → ch_N} (hp : p < 12) (hu : u ≤ 12) (ea : μ' 15 14 0 0 = nI u) (eb : μ' 15 14 0 1 = nI p) (hJ : r_J n sn tx F u hs (μ' 16)) (eF : μ' 15 11 0 7 = F) (hn : ∀ w, r_N n w → r_N (μ' 0) w) (hsn : F = 1 → ∀ w, r_N sn w → r_N (μ' 2) w) (t0 : μ' 15 12 0 0 = tx 12 0 0) (t2 : μ' 15 12 0 2 = tx 12 0 2) (t13 : μ' 15 13 0 = tx 13 0) (hh : ∀ i, i < u → ∀ w, r_N (hs i) w → r_N (k_ring μ' p u i) w) (hc : ∀ k, k < 15 → k_c8 (μ' k) ∧ k_G (μ' k)) : k_Iv μ' u p :=
  ⟨hp, hu, ea, eb, by rw [eF]; exact r_J_gen hJ hn hsn t0 t2 t13 hh, hc⟩
theorem k_Iv_mk {μ μ' : ch_M} {u p : Nat} (h : k_Iv μ u p) (e0 : μ' 0 = μ 0) (e2 : μ' 2 = μ 2) (eh : ∀ k, 3 ≤ k → k < 15 → μ' k = μ k) (c1 : k_c8 (μ' 1) ∧ k_G (μ' 1)) (e11 : μ' 15 11 = μ 15 11) (e12 : μ' 15 12 0 0 = μ 15 12 0 0) (e122 : μ' 15 12 0 2 = μ 15 12 0 2) (e13 : μ' 15 13 0 = μ 15 13 0) (e14 : μ' 15 14 = μ 15 14) (hJ : r_J (μ 0) (μ 2) (μ 15) (μ 15 11 0 7) u (k_ring μ p u) (μ' 16)) : k_Iv μ' u p := by
  obtain ⟨a1, a2, a3, a4, a5, a6⟩ := h
  refine k_Iv_of a1 a2 (by rw [e14]; exact a3) (by rw [e14]; exact a4) hJ (by rw [e11]) (fun w z => by rw [e0]; exact z) (fun _ w z => by rw [e2]; exact z) e12 e122 e13 (fun i hi w z => ?_) (fun k hk => ?_)
  · unfold k_ring at z ⊢
    rw [eh _ (by omega) (by omega)]; exact z
  · rcases (show k = 0 ∨ k = 1 ∨ k = 2 ∨ 3 ≤ k by omega) with rfl | rfl | rfl | h3
    · rw [e0]; exact a6 0 hk
    · exact c1
    · rw [e2]; exact a6 2 hk
    · rw [eh k h3 hk]; exact a6 k hk
theorem k_min_pu {u : Nat} (h : u ≤ 12) : k_min (nI u + 1) 12 = nI (r_pu u) := by
  unfold k_min r_pu
  rw [nI_1]
  by_cases e : u = 12
  · subst e; rfl
  · rw [if_neg (show ¬ (12 : Int32) < nI (u + 1) from nI_nlt (a := 12) (by omega) (by decide)), if_neg e]
theorem k_nx_p {p : Nat} (h : p < 12) : k_nx (nI p) = nI ((p + 1) % 12) := by
  unfold k_nx
  rw [nI_1]
  by_cases e : p = 11
  · subst e; rfl
  · rw [if_pos (show nI (p + 1) < (12 : Int32) from nI_lt (b := 12) (by omega) (by decide)), Nat.mod_eq_of_lt (by omega)]
theorem k_Iv_rec {μ μ' : ch_M} {u p : Nat} (h : k_Iv μ u p) {n' : ch_N} (e0 : μ' 0 = n') (e1 : μ' 1 = μ 1) (e2 : μ' 2 = μ 2) (ep : μ' (3 + p) = k_cp (μ (3 + p)) (μ 0)) (eh : ∀ k, 3 ≤ k → k < 15 → k ≠ 3 + p → μ' k = μ k) (e11 : μ' 15 11 = μ 15 11) (e12 : μ' 15 12 = μ 15 12) (e13 : μ' 15 13 = μ 15 13) (ea : μ' 15 14 0 0 = k_min (μ 15 14 0 0 + 1) 12) (eb : μ' 15 14 0 1 = k_nx (μ 15 14 0 1)) (cn : k_c8 n' ∧ k_G n')
    (hJ : r_J n' (μ 2) (μ 15) (μ 15 11 0 7) (r_pu u) (r_ph (k_ring μ p u) u (μ 0)) (μ' 16)) : k_Iv μ' (r_pu u) ((p + 1) % 12) := by
  obtain ⟨a1, a2, a3, a4, a5, a6⟩ := h
  have hp15 : 3 + p < 15 := by omega
  refine k_Iv_of (by omega) (by unfold r_pu; split <;> omega) (by rw [ea, a3]; exact k_min_pu a2) (by rw [eb, a4]; exact k_nx_p a1) hJ (by rw [e11]) (fun w z => by rw [e0]; exact z) (fun _ w z => by rw [e2]; exact z) (by rw [e12]) (by rw [e12]) (by rw [e13]) (fun i hi w z => ?_) (fun k hk => ?_)
  · unfold r_ph at z
    unfold k_ring at z ⊢
    unfold r_pu at hi ⊢
    by_cases hu : u = 12
    · rw [if_pos hu] at hi z ⊢
      by_cases hl : i < 11
      · rw [if_pos hl] at z
        have e : 3 + ((p + 1) % 12 + 12 - 12 + i) % 12 = 3 + (p + 12 - u + (i + 1)) % 12 := by omega
        rw [e, eh _ (by omega) (by omega) (by omega)]; exact z
      · rw [if_neg hl] at z
        have e : 3 + ((p + 1) % 12 + 12 - 12 + i) % 12 = 3 + p := by omega
        rw [e, ep]; exact r_N_ag (k_cp_ag _ _) (k_cp_c8 (a6 _ hp15).1 (a6 0 (by omega)).1) z
    · rw [if_neg hu] at hi z ⊢
      by_cases hl : i < u
      · rw [if_pos hl] at z
        have e : 3 + ((p + 1) % 12 + 12 - (u + 1) + i) % 12 = 3 + (p + 12 - u + i) % 12 := by omega
        rw [e, eh _ (by omega) (by omega) (by omega)]; exact z
      · rw [if_neg hl] at z
        have e : 3 + ((p + 1) % 12 + 12 - (u + 1) + i) % 12 = 3 + p := by omega
        rw [e, ep]; exact r_N_ag (k_cp_ag _ _) (k_cp_c8 (a6 _ hp15).1 (a6 0 (by omega)).1) z
  · by_cases e9 : k = 3 + p
    · subst e9; rw [ep]; exact ⟨k_cp_c8 (a6 _ hp15).1 (a6 0 (by omega)).1, k_G_ag (k_cp_ag _ _) (a6 0 (by omega)).2⟩
    · rcases (show k = 0 ∨ k = 1 ∨ k = 2 ∨ 3 ≤ k by omega) with rfl | rfl | rfl | h3
      · rw [e0]; exact cn
      · rw [e1]; exact a6 1 hk
      · rw [e2]; exact a6 2 hk
      · rw [eh k h3 hk e9]; exact a6 k hk
/-- the reference's part set anew -/
theorem k_Iv_16 {μ : ch_M} {u p : Nat} (h : k_Iv μ u p) {P : ch_N} (hJ : r_J (μ 0) (μ 2) (μ 15) (μ 15 11 0 7) u (k_ring μ p u) P) : k_Iv (up μ 16 P) u p := by
  refine k_Iv_mk h (up_n (by decide)) (up_n (by decide)) (fun k h1 h2 => up_n (by omega)) (by rw [up_n (by decide)]; exact h.2.2.2.2.2 1 (by decide)) ?_ ?_ ?_ ?_ ?_ (by rw [up_s]; exact hJ) <;> rw [up_n (show 15 ≠ 16 by decide)]
theorem k_Iv_th {μ : ch_M} {u p : Nat} (h : k_Iv μ u p) (t : Int32) : k_Iv (r_th μ t) u p := k_Iv_16 h (r_J_th h.2.2.2.2.1)
/-- the memory of the class's ranking and survey, of the law -/
theorem k_Iv_o {μ μ' : ch_M} {u p : Nat} (h : k_Iv μ u p) (e : ∀ k, k < 15 ∨ k = 16 → μ' k = μ k) (h15 : ∀ kd, 11 ≤ kd → kd ≤ 14 → μ' 15 kd = μ 15 kd) : k_Iv μ' u p :=
  k_Iv_mk h (e 0 (by decide)) (e 2 (by decide)) (fun k _ h2 => e k (Or.inl h2)) (by rw [e 1 (by decide)]; exact h.2.2.2.2.2 1 (by decide)) (h15 11 (by decide) (by decide)) (by rw [h15 12 (by decide) (by decide)]) (by rw [h15 12 (by decide) (by decide)]) (by rw [h15 13 (by decide) (by decide)]) (h15 14 (by decide) (by decide)) (by rw [e 16 (by decide)]; exact h.2.2.2.2.1)
theorem k_Iv_17 {μ : ch_M} {u p : Nat} (h : k_Iv μ u p) (r : Int32) : k_Iv (ch_st μ 17 34 0 0 r) u p := by
  refine k_Iv_o h (fun k hk => ?_) (fun kd _ _ => ?_)
  · unfold ch_st; exact up_n (by omega)
  · unfold ch_st; rw [up_n (by decide)]
theorem st17 (μ : ch_M) (r : Int32) {k : Nat} (h : k ≠ 17) : ch_st μ 17 34 0 0 r k = μ k := by unfold ch_st; exact up_n h
theorem st17_v (μ : ch_M) (r : Int32) : ch_st μ 17 34 0 0 r 17 34 0 0 = r := by rw [ch_st_at, if_pos ⟨rfl, rfl, rfl, rfl⟩]
