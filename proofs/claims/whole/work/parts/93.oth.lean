section
variable {q0 : ch_N}
/-- only the text's own numbers have changed -/
def t_o (q0 q : ch_N) : Prop := ∀ kd, kd ≠ 12 → q kd = q0 kd
theorem o_fail {q : ch_N} {c : Int32} (h : t_o q0 q) : t_o q0 (t_fail q c) := fun kd hk => by
  unfold t_fail; split
  · rw [nw_k hk]; exact h kd hk
  · exact h kd hk
theorem o_adv {q : ch_N} (h : t_o q0 q) : t_o q0 (t_adv q) := fun kd hk => by
  unfold t_adv; split
  · exact h kd hk
  · unfold t_st; rw [nw_k hk, nw_k hk, nw_k hk]; exact h kd hk
theorem o_sn {q : ch_N} (h : t_o q0 q) (lo hi : Int32) : t_o q0 (t_sn q lo hi).2 := by
  unfold t_sn
  split
  · exact h
  · split
    · exact o_fail h
    · exact h
theorem o_see {q : ch_N} (h : t_o q0 q) (lo hi : Int32) : t_o q0 (t_see q lo hi).2 := by
  unfold t_see
  refine o_sn ?_ lo hi
  split
  · exact h
  · exact o_fail h
theorem o_take {q : ch_N} (h : t_o q0 q) (lo hi : Int32) : t_o q0 (t_take q lo hi).2 := o_adv (o_see h lo hi)
theorem o_exp {q : ch_N} (h : t_o q0 q) (a : Nat) : t_o q0 (t_exp q a) := by
  unfold t_exp; split
  · exact o_adv h
  · exact o_fail h
theorem o_close {q : ch_N} (h : t_o q0 q) : t_o q0 (t_close q) := fun kd hk => by unfold t_close; rw [nw_k hk, nw_k hk]; exact h kd hk
theorem o_open (q : ch_N) (x : Int32) : t_o q (t_open q x) := by
  unfold t_open
  exact o_adv (fun kd hk => by rw [nw_k hk, nw_k hk, nw_k hk])
theorem l_f_o9 {c f : Nat} {lo hi : Int32} {p : ch_P2} (h : t_o q0 p.1) : t_o q0 (l_f c f lo hi p).1 := o_take h _ _
theorem l_h_o9 {j : Nat} {lo hi : Int32} {p : ch_P2} (h : t_o q0 p.1) : t_o q0 (l_h j lo hi p).1 := o_take h _ _
theorem l_cellA_o9 {c : Nat} {p : ch_P2} (h : t_o q0 p.1) : t_o q0 (l_cellA c p).1 := by
  unfold l_cellA
  apply l_f_o9; apply l_f_o9; apply l_f_o9; apply l_f_o9; apply l_f_o9; apply l_f_o9; apply l_f_o9; apply l_f_o9
  exact h
theorem l_cell_o9 {p : ch_P2} (h : t_o q0 p.1) : t_o q0 (l_cell p).1 := by
  unfold l_cell
  split
  · exact o_fail h
  · dsimp only
    exact l_cellA_o9 (c := k_ix 8 8 (p.2 0 0 0)) (p := (t_adv p.1, p.2)) (o_adv h)
theorem l_set_o9 {p : ch_P2} (h : t_o q0 p.1) : t_o q0 (l_set p).1 := by
  unfold l_set
  apply l_h_o9; apply l_h_o9; apply l_h_o9; apply l_h_o9; apply l_h_o9; apply l_h_o9
  exact o_adv h
theorem l_r3_o9 {p : ch_P2} (h : t_o q0 p.1) : t_o q0 (l_r3 p) := by
  unfold l_r3
  split
  · exact o_fail (o_see (o_take (o_adv h) _ _) _ _)
  · exact o_see (o_take (o_adv h) _ _) _ _
theorem l_r4_o9 {p : ch_P2} (h : t_o q0 p.1) : t_o q0 (l_r4 p) := by
  unfold l_r4
  split
  · exact l_r3_o9 h
  · exact o_fail (l_r3_o9 h)
theorem l_rel_o9 {p : ch_P2} (h : t_o q0 p.1) : t_o q0 (l_rel p).1 := by
  unfold l_rel
  split
  · exact o_fail h
  · exact o_take (o_adv (l_r4_o9 h)) _ _
theorem l_cl_o9 {p : ch_P2} (h : t_o q0 p.1) : t_o q0 (l_cl p).1 := by
  unfold l_cl
  split
  · exact l_cell_o9 h
  · split
    · exact l_rel_o9 h
    · split
      · exact l_set_o9 h
      · exact o_fail h
theorem e_svL_o9 {q : ch_N} (h : t_o q0 q) : ∀ j, t_o q0 (e_svL q j).2
  | 0 => o_see h _ _
  | j + 1 => by
    unfold e_svL
    split
    · exact h
    · exact e_svL_o9 h j
theorem e_sv_o9 {q : ch_N} (h : t_o q0 q) : t_o q0 (e_sv q).2 := e_svL_o9 h 8
theorem e_q2_o9 {q : ch_N} (h : t_o q0 q) : t_o q0 (e_q2 q) := by
  unfold e_q2
  split
  · exact h
  · split
    · exact h
    · split
      · exact h
      · exact o_fail h
theorem e_q3_o9 {q : ch_N} (h : t_o q0 q) : t_o q0 (e_q3 q) := o_adv (e_q2_o9 (o_adv (e_sv_o9 h)))
theorem e_cmp_o9 {n q : ch_N} (h : t_o q0 q) : t_o q0 (e_cmp n q).2 := by
  unfold e_cmp
  dsimp only
  exact o_adv (e_sv_o9 (e_q3_o9 h))
theorem e_tL_o9 {F : ch_N → Int32 × ch_N} (hF : ∀ q, t_o q0 q → t_o q0 (F q).2) : ∀ (j : Nat) (p : Int32 × Int32 × ch_N), t_o q0 p.2.2 → t_o q0 (e_tL F j p).2.2
  | 0, _, h => h
  | j + 1, p, h => by
    unfold e_tL
    split
    · exact e_tL_o9 hF j _ (hF _ (o_adv h))
    · split
      · exact e_tL_o9 hF j _ (hF _ (o_adv h))
      · exact h
theorem e_tst_o9 {F : ch_N → Int32 × ch_N} (hF : ∀ q, t_o q0 q → t_o q0 (F q).2) {q : ch_N} (h : t_o q0 q) : t_o q0 (e_tst F q).2 := e_tL_o9 hF 200 _ (hF _ h)
theorem e_fac_o9 (n : ch_N) : ∀ (d : Nat) (q : ch_N), t_o q0 q → t_o q0 (e_fac n d q).2
  | 0, q, h => by
    unfold e_fac
    split
    · exact o_fail h
    · split
      · exact o_fail h
      · exact e_cmp_o9 h
  | d + 1, q, h => by
    unfold e_fac
    split
    · exact e_fac_o9 n d _ (o_adv h)
    · split
      · exact o_exp (e_tst_o9 (e_fac_o9 n d) (o_adv h)) _
      · exact e_cmp_o9 h
theorem e_h1_o9 {q : ch_N} (h : t_o q0 q) : t_o q0 (e_h1 q) := by
  unfold e_h1
  split
  · exact h
  · split
    · exact h
    · exact o_fail h
end
section
variable {q0 : ch_N}
theorem l_nL_o9 : ∀ (N : Nat) (p : ch_P2), t_o q0 p.1 → t_o q0 (l_nL N p).1
  | 0, _, h => h
  | N + 1, p, h => by
    rw [l_nL_s]; split
    · exact l_nL_o9 N _ (o_exp (l_cl_o9 h) _)
    · exact h
theorem l_net_o9 {p : ch_P2} (h : t_o q0 p.1) : t_o q0 (l_net p).1 := l_nL_o9 700 _ h
theorem e_qry_o9 {n q : ch_N} (h : t_o q0 q) : t_o q0 (e_qry n q).2 := by
  have h2 : t_o q0 (e_h2 n q).2 := e_tst_o9 (e_fac_o9 n 6) (o_adv (e_h1_o9 h))
  unfold e_qry
  dsimp only
  split
  · exact o_fail h2
  · exact h2
end
theorem t_app_k (q : ch_N) (w : Int32) {kd : Nat} (h : kd ≠ 12) (h3 : kd ≠ 13) : ∀ N, t_app q w N kd = q kd
  | 0 => rfl
  | N + 1 => by rw [t_app_s, nw_k h, nw_k h3]; exact t_app_k q w h h3 N
theorem k_nr1_k {n : ch_N} {a x y m : Int32} {c : Nat} {q : ch_N} {kd : Nat} (h : kd ≠ 21) : k_nr1 n a x y m c q kd = q kd := by
  unfold k_nr1
  split
  · exact nw_k h
  · rfl
theorem kf_kd {f : Nat → ch_N → ch_N} {kd : Nat} (hf : ∀ c q, f c q kd = q kd) : ∀ (N : Nat) (q : ch_N), kf f N q kd = q kd
  | 0, _ => rfl
  | N + 1, q => by rw [kf_s, hf]; exact kf_kd hf N q
theorem k_nrA_k {n : ch_N} {m : Int32} {N : Nat} {q : ch_N} {kd : Nat} (h : kd ≠ 21) : k_nrA n m N q kd = q kd := by
  unfold k_nrA
  refine kf_kd (fun a q => ?_) N q
  unfold k_nrB
  refine kf_kd (fun b q => ?_) 28 q
  unfold k_nr
  exact kf_kd (fun c q => k_nr1_k h) _ q
