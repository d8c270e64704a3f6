/-! lines of the text, what they do to the network -/
theorem l_f_p {q n : ch_N} {c f v : Nat} {lo hi : Int32} {l : List Int32} (h : o_tk q 2 (p_D v) l) (hv : v < 1000) (h1 : ¬ nI v < lo) (h2 : ¬ hi < nI v) : l_f c f lo hi (q, n) = (t_adv q, nw n 1 c f (nI v)) := by
  unfold l_f
  rw [tk_take h hv h1 h2]
theorem l_h_p {q n : ch_N} {j v : Nat} {lo hi : Int32} {l : List Int32} (h : o_tk q 2 (p_D v) l) (hv : v < 1000) (h1 : ¬ nI v < lo) (h2 : ¬ hi < nI v) : l_h j lo hi (q, n) = (t_adv q, nw n 0 0 j (nI v)) := by
  unfold l_h
  rw [tk_take h hv h1 h2]
theorem p_hi {v : Nat} {h : Nat} (hv : v ≤ h) (h3 : h < 2 ^ 31) : ¬ nI h < nI v := fun z => by
  have := (nI_ltI h3 (by omega)).mp z
  omega
theorem p_lo {v : Nat} {h : Nat} (hv : h ≤ v) (h3 : v < 2 ^ 31) : ¬ nI v < nI h := fun z => by
  have := (nI_ltI h3 (by omega)).mp z
  omega
/-- the settings of a list of ints in the row i of kind kd, from slot f on -/
def p_st (kd i : Nat) : Nat → List Nat → ch_N → ch_N
  | _, [], n => n
  | f, v :: vs, n => p_st kd i (f + 1) vs (nw n kd i f (nI v))
theorem p_st_ne {kd i kd' : Nat} (h : kd' ≠ kd) : ∀ (vs : List Nat) (f : Nat) (n : ch_N), p_st kd i f vs n kd' = n kd'
  | [], _, _ => rfl
  | v :: vs, f, n => (p_st_ne h vs (f + 1) _).trans (nw_k h)
/-- a line, done -/
def p_do (n : ch_N) (x : Nat × List Nat) : ch_N :=
  if x.1 = 1 then nw (nw (p_st 1 (Int32.toNatClampNeg (n 0 0 0)) 0 x.2 n) 1 (Int32.toNatClampNeg (n 0 0 0)) 8 0) 0 0 0 (n 0 0 0 + 1)
  else if x.1 = 2 then nw (nw (nw n 2 (8 * x.2.getD 0 0 + x.2.getD 1 0) 1 (nI (x.2.getD 2 0))) 2 (8 * x.2.getD 0 0 + x.2.getD 1 0) 0 1) 0 0 1 (n 0 0 1 + 1)
  else p_st 0 0 4 x.2 n
def p_b8 (v : Nat → Nat) : Prop := v 0 ≤ 999 ∧ v 1 ≤ 999 ∧ (1 ≤ v 2 ∧ v 2 ≤ 99) ∧ (1 ≤ v 3 ∧ v 3 ≤ 50) ∧ (1 ≤ v 4 ∧ v 4 ≤ 8) ∧ v 5 ≤ 6 ∧ v 6 ≤ 99 ∧ v 7 ≤ 99
def p_b6 (v : Nat → Nat) : Prop := (1 ≤ v 0 ∧ v 0 ≤ 8) ∧ (1 ≤ v 1 ∧ v 1 ≤ v 0) ∧ v 2 ≤ 50 ∧ (1 ≤ v 3 ∧ v 3 ≤ 30) ∧ v 4 ≤ 99 ∧ (1 ≤ v 5 ∧ v 5 ≤ 20)
def p_ok (n : ch_N) (x : Nat × List Nat) : Prop :=
  (x.1 = 1 ∧ (∃ c, c < 8 ∧ n 0 0 0 = nI c) ∧ ∃ v, x.2 = [v 0, v 1, v 2, v 3, v 4, v 5, v 6, v 7] ∧ p_b8 v) ∨
  (x.1 = 2 ∧ ∃ C a b d R, n 0 0 0 = nI C ∧ C ≤ 8 ∧ n 0 0 1 = nI R ∧ R < 24 ∧ x.2 = [a, b, d] ∧ a < C ∧ b < C ∧ a ≠ b ∧ d ≤ 30 ∧ n 2 (8 * a + b) 0 = 0) ∨
  (x.1 = 3 ∧ ∃ v, x.2 = [v 0, v 1, v 2, v 3, v 4, v 5] ∧ p_b6 v)
theorem l_cell_p {q n : ch_N} {c : Nat} {v : Nat → Nat} {L : List Int32} (h : o_tk q 1 (p_w 1) (p_ns [v 0, v 1, v 2, v 3, v 4, v 5, v 6, v 7] ++ L)) (hc : c < 8) (e : n 0 0 0 = nI c) (hb : p_b8 v) :
    ∃ q', l_cell (q, n) = (q', p_do n (1, [v 0, v 1, v 2, v 3, v 4, v 5, v 6, v 7])) ∧ o_tk q' 4 [59] L := by
  obtain ⟨b0, b1, ⟨b2, b2'⟩, ⟨b3, b3'⟩, ⟨b4, b4'⟩, b5, b6, b7⟩ := hb
  have h0 := adv_num (by omega) h.pr
  have h1 := adv_num (by omega) h0.pr
  have h2 := adv_num (by omega) h1.pr
  have h3 := adv_num (by omega) h2.pr
  have h4 := adv_num (by omega) h3.pr
  have h5 := adv_num (by omega) h4.pr
  have h6 := adv_num (by omega) h5.pr
  have h7 := adv_num (by omega) h6.pr
  have h8 := adv_semi h7.pr
  refine ⟨_, ?_, h8⟩
  have ec : k_ix 8 8 (n 0 0 0) = c := by rw [e]; exact k_cel hc
  have en : Int32.toNatClampNeg (n 0 0 0) = c := by rw [e, nI_clamp (by omega)]
  unfold l_cell
  dsimp only
  rw [if_neg (fun z => z (by rw [e]; exact nI_lt (b := 8) hc (by decide))), ec]
  have E : l_cellA c (t_adv q, n) = (t_adv (t_adv (t_adv (t_adv (t_adv (t_adv (t_adv (t_adv (t_adv q)))))))), p_st 1 c 0 [v 0, v 1, v 2, v 3, v 4, v 5, v 6, v 7] n) := by
    unfold l_cellA
    rw [l_f_p (lo := 0) (hi := 999) h0 (by omega) (p_lo (h := 0) (by omega) (by omega)) (p_hi (h := 999) (by omega) (by omega)),
      l_f_p (lo := 0) (hi := 999) h1 (by omega) (p_lo (h := 0) (by omega) (by omega)) (p_hi (h := 999) (by omega) (by omega)),
      l_f_p (lo := 1) (hi := 99) h2 (by omega) (p_lo (h := 1) (by omega) (by omega)) (p_hi (h := 99) (by omega) (by omega)),
      l_f_p (lo := 1) (hi := 50) h3 (by omega) (p_lo (h := 1) (by omega) (by omega)) (p_hi (h := 50) (by omega) (by omega)),
      l_f_p (lo := 1) (hi := 8) h4 (by omega) (p_lo (h := 1) (by omega) (by omega)) (p_hi (h := 8) (by omega) (by omega)),
      l_f_p (lo := 0) (hi := 6) h5 (by omega) (p_lo (h := 0) (by omega) (by omega)) (p_hi (h := 6) (by omega) (by omega)),
      l_f_p (lo := 0) (hi := 99) h6 (by omega) (p_lo (h := 0) (by omega) (by omega)) (p_hi (h := 99) (by omega) (by omega)),
      l_f_p (lo := 0) (hi := 99) h7 (by omega) (p_lo (h := 0) (by omega) (by omega)) (p_hi (h := 99) (by omega) (by omega))]
    simp only [p_st]
  have ed : p_do n (1, [v 0, v 1, v 2, v 3, v 4, v 5, v 6, v 7]) = nw (nw (p_st 1 c 0 [v 0, v 1, v 2, v 3, v 4, v 5, v 6, v 7] n) 1 c 8 0) 0 0 0 (n 0 0 0 + 1) := by
    unfold p_do
    dsimp only
    rw [if_pos rfl, en]
  rw [E, ed]
  dsimp only
  rw [p_st_ne (by decide)]
theorem l_set_p {q n : ch_N} {v : Nat → Nat} {L : List Int32} (h : o_tk q 1 (p_w 3) (p_ns [v 0, v 1, v 2, v 3, v 4, v 5] ++ L)) (hb : p_b6 v) :
    ∃ q', l_set (q, n) = (q', p_do n (3, [v 0, v 1, v 2, v 3, v 4, v 5])) ∧ o_tk q' 4 [59] L := by
  obtain ⟨⟨b0, b0'⟩, ⟨b1, b1'⟩, b2, ⟨b3, b3'⟩, b4, b5, b5'⟩ := hb
  have h0 := adv_num (by omega) h.pr
  have h1 := adv_num (by omega) h0.pr
  have h2 := adv_num (by omega) h1.pr
  have h3 := adv_num (by omega) h2.pr
  have h4 := adv_num (by omega) h3.pr
  have h5 := adv_num (by omega) h4.pr
  have h6 := adv_semi h5.pr
  refine ⟨_, ?_, h6⟩
  unfold l_set
  dsimp only
  rw [l_h_p (lo := 1) (hi := 8) h0 (by omega) (p_lo (h := 1) (by omega) (by omega)) (p_hi (h := 8) (by omega) (by omega))]
  dsimp only
  rw [show (nw n 0 0 4 (nI (v 0))) 0 0 4 = nI (v 0) by simp [nw_at],
    l_h_p (lo := 1) (hi := nI (v 0)) h1 (by omega) (p_lo (h := 1) (by omega) (by omega)) (p_hi (by omega) (by omega)),
    l_h_p (lo := 0) (hi := 50) h2 (by omega) (p_lo (h := 0) (by omega) (by omega)) (p_hi (h := 50) (by omega) (by omega)),
    l_h_p (lo := 1) (hi := 30) h3 (by omega) (p_lo (h := 1) (by omega) (by omega)) (p_hi (h := 30) (by omega) (by omega)),
    l_h_p (lo := 0) (hi := 99) h4 (by omega) (p_lo (h := 0) (by omega) (by omega)) (p_hi (h := 99) (by omega) (by omega)),
    l_h_p (lo := 1) (hi := 20) h5 (by omega) (p_lo (h := 1) (by omega) (by omega)) (p_hi (h := 20) (by omega) (by omega))]
  rfl
theorem l_rel_p {q n : ch_N} {C a b d R : Nat} {L : List Int32} (h : o_tk q 1 (p_w 2) (p_ns [a, b, d] ++ L)) (eC : n 0 0 0 = nI C) (hC : C ≤ 8) (eR : n 0 0 1 = nI R) (hR : R < 24) (ha : a < C) (hb : b < C) (hab : a ≠ b) (hd : d ≤ 30) (h2 : n 2 (8 * a + b) 0 = 0) :
    ∃ q', l_rel (q, n) = (q', p_do n (2, [a, b, d])) ∧ o_tk q' 4 [59] L := by
  have h0 := adv_num (by omega) h.pr
  have h1 := adv_num (by omega) h0.pr
  have hh := adv_num (by omega) h1.pr
  have h3 := adv_semi hh.pr
  refine ⟨_, ?_, h3⟩
  have eC1 : n 0 0 0 - 1 = nI (C - 1) := by
    rw [eC, show C = C - 1 + 1 by omega, ← nI_1, show C - 1 + 1 - 1 = C - 1 by omega]
    exact Int32.add_sub_cancel _ _
  have r1 : l_r1 (q, n) = (nI a, t_adv (t_adv q)) := by
    unfold l_r1
    dsimp only
    rw [eC1]
    exact tk_take h0 (by omega) (p_lo (h := 0) (by omega) (by omega)) (p_hi (by omega) (by omega))
  have r2 : l_r2 (q, n) = (nI b, t_adv (t_adv q)) := by
    unfold l_r2
    rw [r1]
    dsimp only
    rw [eC1]
    exact tk_see h1 (by omega) (p_lo (h := 0) (by omega) (by omega)) (p_hi (by omega) (by omega))
  have r3 : l_r3 (q, n) = t_adv (t_adv q) := by
    unfold l_r3
    rw [r1, r2]
    exact if_neg (fun z => hab (by have := congrArg Int32.toNatClampNeg z; rw [nI_clamp (by omega), nI_clamp (by omega)] at this; exact this.symm))
  have r4 : l_r4 (q, n) = t_adv (t_adv q) := by
    unfold l_r4
    rw [r1, r2, r3]
    dsimp only
    rw [r_rx (by omega) (by omega), if_pos h2]
  have r5 : l_r5 (q, n) = (nI d, t_adv (t_adv (t_adv (t_adv q)))) := by
    unfold l_r5
    rw [r4]
    exact tk_take hh (by omega) (p_lo (h := 0) (by omega) (by omega)) (p_hi (h := 30) (by omega) (by omega))
  unfold l_rel
  dsimp only
  rw [if_neg (fun z => z (by rw [eR]; exact nI_lt (b := 24) hR (by decide))), r1, r2, r5]
  dsimp only
  rw [r_rx (by omega) (by omega)]
  rfl
/-- where the reader stands: at the first token of the first of these lines, or at the end -/
def p_at (q : ch_N) : List (Nat × List Nat) → Prop
  | [] => q 12 0 1 = 0 ∧ t_go q = false
  | x :: xs => (0 < x.1 ∧ x.1 < 4) ∧ o_tk q 1 (p_w x.1) (p_ns x.2 ++ p_tx xs)
def p_run : List (Nat × List Nat) → ch_N → ch_N
  | [], n => n
  | x :: xs, n => p_run xs (p_do n x)
def p_oks : List (Nat × List Nat) → ch_N → Prop
  | [], _ => True
  | x :: xs, n => p_ok n x ∧ p_oks xs (p_do n x)
theorem p_oks_k {x : Nat × List Nat} {xs : List (Nat × List Nat)} {n : ch_N} (h : p_oks (x :: xs) n) : 0 < x.1 ∧ x.1 < 4 := by
  rcases h.1 with z | z | z <;> rw [z.1] <;> decide
theorem p_first {q : ch_N} : ∀ (xs : List (Nat × List Nat)) (n : ch_N), p_oks xs n → o_pz q (p_tx xs) → p_at (t_adv q) xs
  | [], _, _, h => t_adv_end h
  | x :: xs, n, ho, h => ⟨p_oks_k ho, adv_word (p_oks_k ho) h⟩
theorem l_cl_p {q n : ch_N} {x : Nat × List Nat} {L : List Int32} (h : o_tk q 1 (p_w x.1) (p_ns x.2 ++ L)) (ho : p_ok n x) : ∃ q', l_cl (q, n) = (q', p_do n x) ∧ o_tk q' 4 [59] L := by
  obtain ⟨a, vs⟩ := x
  unfold l_cl
  dsimp only at h ⊢
  rw [tk_is h 1, tk_is h 2, tk_is h 3]
  rcases ho with ⟨e, ⟨c, hc, e0⟩, v, ev, hb⟩ | ⟨e, C, a', b, d, R, g1, g2, g3, g4, g5, g6, g7, g8, g9, g10⟩ | ⟨e, v, ev, hb⟩
  · dsimp only at e ev
    subst e
    subst ev
    rw [decide_eq_true rfl, if_pos rfl]
    exact l_cell_p h hc e0 hb
  · dsimp only at e g5
    subst e
    subst g5
    rw [show decide (p_w 2 = p_w 1) = false by decide, if_neg (by decide), decide_eq_true rfl, if_pos rfl]
    exact l_rel_p h g1 g2 g3 g4 g6 g7 g8 g9 g10
  · dsimp only at e ev
    subst e
    subst ev
    rw [show decide (p_w 3 = p_w 1) = false by decide, if_neg (by decide), show decide (p_w 3 = p_w 2) = false by decide, if_neg (by decide), decide_eq_true rfl, if_pos rfl]
    exact l_set_p h hb
theorem p_nL : ∀ (xs : List (Nat × List Nat)) (j : Nat) (q n : ch_N), xs.length < j → p_oks xs n → p_at q xs → (l_nL j (q, n)).1 12 0 1 = 0 ∧ (l_nL j (q, n)).2 = p_run xs n
  | [], j, q, n, hj, _, h => by
    obtain ⟨j', rfl⟩ : ∃ j', j = j' + 1 := ⟨j - 1, by simp at hj; omega⟩
    rw [l_nL_s, if_neg (by dsimp only; rw [h.2]; decide)]
    exact ⟨h.1, rfl⟩
  | x :: xs, j, q, n, hj, ho, h => by
    obtain ⟨j', rfl⟩ : ∃ j', j = j' + 1 := ⟨j - 1, by simp at hj; omega⟩
    obtain ⟨hk, ht⟩ := h
    obtain ⟨q', e, h4⟩ := l_cl_p ht ho.1
    have hg : t_go q = true := by
      obtain ⟨h1, -, s, h5, h6, h4', h7, -⟩ := ht
      unfold t_go
      rw [decide_eq_true_eq]
      refine ⟨h1, ?_⟩
      rw [h5, h4']
      exact (nI_ltI (by omega) (by omega)).mpr (by have := p_w_l x.1 hk.2 hk.1; omega)
    have e59 : t_exp q' 4 = t_adv q' := by
      unfold t_exp
      rw [tk_is h4 4, if_pos (by decide)]
    rw [l_nL_s, if_pos hg, e]
    dsimp only
    rw [e59]
    exact p_nL xs j' (t_adv q') (p_do n x) (by simp at hj; omega) ho.2 (p_first xs _ ho.2 h4.pr)
/-- the reader of a text of these lines -/
theorem p_net {q n : ch_N} {xs : List (Nat × List Nat)} (hx : xs.length < 700) (hl : (p_tx xs).length ≤ 700) (hb : ∀ i, i < (p_tx xs).length → q 13 0 i = (p_tx xs).getD i 0) (ho : p_oks xs (k_clear n)) :
    (l_net (t_open q (nI (p_tx xs).length), n)).1 12 0 1 = 0 ∧ (l_net (t_open q (nI (p_tx xs).length), n)).2 = p_run xs (k_clear n) := by
  unfold l_net
  show (l_nL 700 (t_adv (nw (nw (nw q 12 0 4 (nI (p_tx xs).length)) 12 0 6 0) 12 0 1 0), k_clear n)).1 12 0 1 = 0 ∧ _
  refine p_nL xs 700 _ _ hx ho (p_first xs _ ho ?_)
  refine ⟨by simp [nw_at], 0, by simp [nw_at]; rfl, by simp [nw_at], by omega, fun i hi => ?_⟩
  rw [nw_k (by decide), nw_k (by decide), nw_k (by decide), Nat.zero_add]
  exact hb i hi
