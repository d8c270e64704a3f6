/-! THE LAW: the best hysteresis, by trials that are taken back -/
theorem nI_tI {a : Nat} (h : a < 2 ^ 31) : (nI a).toInt = (a : Int) := Int32.toInt_ofNat_of_lt h
theorem I32_sub {a c : Nat} (ha : a < 2 ^ 31) (hc : c < 2 ^ 31) : (nI a - nI c).toInt = (a : Int) - c := by
  rw [Int32.toInt_sub, nI_tI ha, nI_tI hc]
  exact Int.bmod_eq_of_le (by omega) (by omega)
theorem I32_sub_lt {a b c : Nat} (ha : a < 2 ^ 31) (hb : b < 2 ^ 31) (hc : c < 2 ^ 31) : nI a - nI c < nI b - nI c ↔ nI a < nI b := by
  rw [Int32.lt_iff_toInt_lt, Int32.lt_iff_toInt_lt, I32_sub ha hc, I32_sub hb hc, nI_tI ha, nI_tI hb]
  omega
theorem I32_sub_eq {x y z : Int32} : x - z = y - z ↔ x = y := by
  constructor
  · intro h
    have := congrArg (· + z) h
    simpa using this
  · intro h; rw [h]
theorem r_bh_in (D H : Nat → Int32) : ∀ v, ∃ w, w < v + 1 ∧ r_bh D H (v + 1) = (nI w, D w, H w)
  | 0 => ⟨0, by omega, by rw [r_bh_s]; exact if_pos (Or.inl rfl)⟩
  | v + 1 => by
    obtain ⟨w, hw, e⟩ := r_bh_in D H v
    rw [r_bh_s]
    split
    · exact ⟨v + 1, by omega, rfl⟩
    · exact ⟨w, by omega, e⟩
/-- what the law holds after v trials: the least value, its drops, its hands -/
def o_bs (D H : Nat → Int32) (d0 h0 : Int32) (v : Nat) (x9 x7 x8 : Int32) : Prop :=
  (v = 0 ∧ x9 = -1) ∨ (0 < v ∧ x9 = (r_bh D H v).1 ∧ x7 = (r_bh D H v).2.1 - d0 ∧ x8 = (r_bh D H v).2.2 - h0)
theorem o_bs_set {D H : Nat → Int32} {d0 h0 : Nat} {v : Nat} {x9 x7 x8 : Int32} (h : o_bs D H (nI d0) (nI h0) v x9 x7 x8) (hv : v < 31) (hD : ∀ w, w < 31 → ∃ x, D w = nI x ∧ x < 2 ^ 31) (hH : ∀ w, w < 31 → ∃ x, H w = nI x ∧ x < 2 ^ 31) (hd : d0 < 2 ^ 31) (hh : h0 < 2 ^ 31)
    (c : x9 < 0 ∨ (¬ x7 < D v - nI d0 ∧ (¬ D v - nI d0 = x7 ∨ H v - nI h0 < x8))) : o_bs D H (nI d0) (nI h0) (v + 1) (nI v) (D v - nI d0) (H v - nI h0) := by
  right
  rw [r_bh_s]
  have key : (r_bh D H v).1 = -1 ∨ D v < (r_bh D H v).2.1 ∨ (D v = (r_bh D H v).2.1 ∧ H v < (r_bh D H v).2.2) := by
    rcases h with ⟨rfl, -⟩ | ⟨h0', e9, e7, e8⟩
    · exact Or.inl rfl
    · obtain ⟨u, rfl⟩ : ∃ u, v = u + 1 := ⟨v - 1, by omega⟩
      obtain ⟨w, hw, e⟩ := r_bh_in D H u
      rw [e] at e9 e7 e8 ⊢
      dsimp only at e9 e7 e8 ⊢
      obtain ⟨a, ea, ha⟩ := hD (u + 1) hv
      obtain ⟨b, eb, hb⟩ := hD w (by omega)
      obtain ⟨a', ea', ha'⟩ := hH (u + 1) hv
      obtain ⟨b', eb', hb'⟩ := hH w (by omega)
      rw [ea, eb, ea', eb']
      rw [ea, ea', e9, e7, e8, eb, eb'] at c
      rw [I32_sub_lt hb ha hd, I32_sub_eq, I32_sub_lt ha' hb' hh] at c
      rcases c with c | ⟨c1, c2⟩
      · exact absurd c (nI_pos (by omega))
      · by_cases g : nI a = nI b
        · rcases c2 with c2 | c2
          · exact absurd g c2
          · exact Or.inr (Or.inr ⟨g, c2⟩)
        · refine Or.inr (Or.inl ?_)
          rw [nI_ltI hb ha] at c1
          rw [nI_ltI ha hb]
          have : a ≠ b := fun z => g (by rw [z])
          omega
  rw [if_pos key]
  exact ⟨by omega, rfl, rfl, rfl⟩
theorem o_bs_keep {D H : Nat → Int32} {d0 h0 : Nat} {v : Nat} {x9 x7 x8 : Int32} (h : o_bs D H (nI d0) (nI h0) v x9 x7 x8) (hv : v < 31) (hD : ∀ w, w < 31 → ∃ x, D w = nI x ∧ x < 2 ^ 31) (hH : ∀ w, w < 31 → ∃ x, H w = nI x ∧ x < 2 ^ 31) (hd : d0 < 2 ^ 31) (hh : h0 < 2 ^ 31)
    (c9 : ¬ x9 < 0) (c : x7 < D v - nI d0 ∨ (D v - nI d0 = x7 ∧ ¬ H v - nI h0 < x8)) : o_bs D H (nI d0) (nI h0) (v + 1) x9 x7 x8 := by
  right
  rw [r_bh_s]
  rcases h with ⟨-, e9⟩ | ⟨h0', e9, e7, e8⟩
  · rw [e9] at c9; exact absurd (show (-1 : Int32) < 0 by decide) c9
  have key : ¬ ((r_bh D H v).1 = -1 ∨ D v < (r_bh D H v).2.1 ∨ (D v = (r_bh D H v).2.1 ∧ H v < (r_bh D H v).2.2)) := by
    obtain ⟨u, rfl⟩ : ∃ u, v = u + 1 := ⟨v - 1, by omega⟩
    obtain ⟨w, hw, e⟩ := r_bh_in D H u
    rw [e] at e9 e7 e8 ⊢
    dsimp only at e9 e7 e8 ⊢
    obtain ⟨a, ea, ha⟩ := hD (u + 1) hv
    obtain ⟨b, eb, hb⟩ := hD w (by omega)
    obtain ⟨a', ea', ha'⟩ := hH (u + 1) hv
    obtain ⟨b', eb', hb'⟩ := hH w (by omega)
    rw [ea, eb, ea', eb']
    rw [ea, ea', e7, e8, eb, eb', I32_sub_lt hb ha hd, I32_sub_eq, I32_sub_lt ha' hb' hh] at c
    rintro (z | z | ⟨z1, z2⟩)
    · exact nI_nm1 (by omega) z
    · rw [nI_ltI ha hb] at z
      rcases c with c | ⟨c1, -⟩
      · rw [nI_ltI hb ha] at c; omega
      · have := congrArg Int32.toNatClampNeg c1
        rw [nI_clamp ha, nI_clamp hb] at this
        omega
    · rcases c with c | ⟨-, c2⟩
      · rw [nI_ltI hb ha] at c
        have := congrArg Int32.toNatClampNeg z1
        rw [nI_clamp ha, nI_clamp hb] at this
        omega
      · exact c2 z2
  rw [if_neg key]
  exact ⟨by omega, e9, e7, e8⟩
/-- trial v from n -/
def o_tr (n q : ch_N) (T r v : Nat) : ch_N := (k_adv T (nw n 2 r 1 (nI v), q)).1
theorem bhI_k {n : ch_N} {T a b : Nat} {s : ch_N × ch_N} {kd : Nat} (h : kd ≤ 16) : ∀ v, (k_bhI n T a b s v).2 kd = s.2 kd
  | 0 => rfl
  | v + 1 => by rw [k_bhI_s, k_adv_k h]; exact bhI_k h v
theorem bhI_c8 {n : ch_N} {T a b : Nat} {s : ch_N × ch_N} (hn : k_wf n) (hs : k_c8 s.1) : ∀ v, k_c8 (k_bhI n T a b s v).1
  | 0 => hs
  | v + 1 => by
    rw [k_bhI_s]
    have ih := bhI_c8 (T := T) (a := a) (b := b) (s := s) hn hs v
    exact c8_wf (k_adv_wf T _ (nw2_wf (k_wf_ag (k_cp_ag _ _) (k_cp_c8 ih (c8_wf hn)) hn) _ _ _))
theorem bh_tr {n : ch_N} {B T a b v : Nat} {s : ch_N × ch_N} (q : ch_N) (hA : s_A B (nw n 2 (8 * a + b) 1 (nI v))) : k_ag (o_tr n q T (8 * a + b) v) (k_bhI n T a b s (v + 1)).1 := by
  rw [k_bhI_s]
  exact (ag_adv T B (nw n 2 (8 * a + b) 1 (nI v), q) (nw (k_cp (k_bhI n T a b s v).1 n) 2 (8 * a + b) 1 (nI v), (k_bhI n T a b s v).2) hA (ag_nw (ag_sym (k_cp_ag _ _)) _ _ _ _)).2
theorem r_bh_cg {D H D' H' : Nat → Int32} : ∀ v, (∀ w, w < v → D w = D' w ∧ H w = H' w) → r_bh D H v = r_bh D' H' v
  | 0, _ => by
    have z : ∀ D H, r_bh D H 0 = (-1, 0, 0) := fun _ _ => rfl
    rw [z, z]
  | v + 1, h => by
    rw [r_bh_s, r_bh_s, r_bh_cg v (fun w hw => h w (by omega)), (h v (by omega)).1, (h v (by omega)).2]
theorem bh_val {n : ch_N} {B T a b : Nat} {s : ch_N × ch_N} (q : ch_N) (N : Nat) (hA : ∀ v, v < N → s_A B (nw n 2 (8 * a + b) 1 (nI v))) : r_bh (k_bhD n T a b s) (k_bhH n T a b s) N = r_bh (fun v => o_tr n q T (8 * a + b) v 7 0 3) (fun v => o_tr n q T (8 * a + b) v 7 0 0) N := by
  refine r_bh_cg N (fun w hw => ?_)
  have h := (bh_tr (T := T) (a := a) (b := b) (s := s) q (hA w hw)).2.2.2.2.2
  unfold k_bhD k_bhH
  rw [h]
  exact ⟨rfl, rfl⟩
/-- what is known of a trial's end, the number of trials hidden -/
theorem bh_all {n m q : ch_N} {B T a b N : Nat} (hA : ∀ v, v < N → s_A B (nw n 2 (8 * a + b) 1 (nI v))) (hn : k_wf n) (hm : k_c8 m) : ∃ s bv, k_bhI n T a b (m, q) N = s ∧ (r_bh (k_bhD n T a b (m, q)) (k_bhH n T a b (m, q)) N).1 = bv ∧ bv = (r_bh (fun v => o_tr n q T (8 * a + b) v 7 0 3) (fun v => o_tr n q T (8 * a + b) v 7 0 0) N).1 ∧ (∀ kd, kd ≤ 16 → s.2 kd = q kd) ∧ k_c8 s.1 :=
  ⟨_, _, rfl, rfl, by rw [bh_val q N hA], fun kd h => bhI_k (s := (m, q)) h N, bhI_c8 (s := (m, q)) hn hm N⟩
