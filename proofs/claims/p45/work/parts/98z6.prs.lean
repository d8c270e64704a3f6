/-! THE TEXT OF A NETWORK: its bytes, and what the reader makes of them -/
def p_D (v : Nat) : List Int32 := if v < 10 then [nI (48 + v)] else if v < 100 then [nI (48 + v / 10), nI (48 + v % 10)] else [nI (48 + v / 100), nI (48 + v / 10 % 10), nI (48 + v % 10)]
def p_w (a : Nat) : List Int32 := (List.range (k_len a)).map (k_chr a)
def p_ns : List Nat → List Int32
  | [] => [59]
  | v :: vs => 32 :: (p_D v ++ p_ns vs)
def p_ln (x : Nat × List Nat) : List Int32 := p_w x.1 ++ p_ns x.2
def p_tx : List (Nat × List Nat) → List Int32
  | [] => []
  | x :: xs => p_w x.1 ++ (p_ns x.2 ++ p_tx xs)
/-- behind the token that was read last stands l -/
def o_pz (q : ch_N) (l : List Int32) : Prop := q 12 0 1 = 0 ∧ ∃ p, q 12 0 6 = nI p ∧ q 12 0 4 = nI (p + l.length) ∧ p + l.length ≤ 700 ∧ ∀ i, i < l.length → q 13 0 (p + i) = l.getD i 0
/-- the token is tok, of kind k; behind it stands l -/
def o_tk (q : ch_N) (k : Int32) (tok l : List Int32) : Prop := q 12 0 1 = 0 ∧ q 12 0 7 = k ∧ ∃ s, q 12 0 5 = nI s ∧ q 12 0 6 = nI (s + tok.length) ∧ q 12 0 4 = nI (s + (tok.length + l.length)) ∧ s + (tok.length + l.length) ≤ 700 ∧ ∀ i, i < tok.length + l.length → q 13 0 (s + i) = (tok ++ l).getD i 0
theorem gd_l (a b : List Int32) {i : Nat} (h : i < a.length) : (a ++ b).getD i 0 = a.getD i 0 := by
  rw [List.getD_eq_getElem?_getD, List.getD_eq_getElem?_getD, List.getElem?_append_left h]
theorem gd_r (a b : List Int32) (i : Nat) : (a ++ b).getD (a.length + i) 0 = b.getD i 0 := by
  rw [List.getD_eq_getElem?_getD, List.getD_eq_getElem?_getD, List.getElem?_append_right (by omega), show a.length + i - a.length = i by omega]
theorem gd_m {a : List Int32} {i : Nat} (h : i < a.length) : a.getD i 0 ∈ a := by
  rw [List.getD_eq_getElem?_getD, List.getElem?_eq_getElem h]
  exact List.getElem_mem h
theorem o_tk.pr {q : ch_N} {k : Int32} {tok l : List Int32} (h : o_tk q k tok l) : o_pz q l := by
  obtain ⟨h1, -, s, h5, h6, h4, h7, hb⟩ := h
  refine ⟨h1, s + tok.length, h6, by rw [h4, Nat.add_assoc], by omega, fun i hi => ?_⟩
  rw [Nat.add_assoc, hb (tok.length + i) (by omega), gd_r]
theorem t_rn_run {b : Nat → Int32} {e : Nat} {k : Int32} : ∀ (c j i : Nat), c ≤ j → (∀ x, x < c → t_k b e (i + x) = k) → (c = j ∨ ¬ t_k b e (i + c) = k) → t_rn b e k j i = i + c
  | 0, 0, i, _, _, _ => rfl
  | 0, j + 1, i, _, _, h => by
    unfold t_rn
    rw [if_neg (by rcases h with z | z; omega; exact z)]
    rfl
  | c + 1, 0, i, h, _, _ => absurd h (by omega)
  | c + 1, j + 1, i, hc, h1, h2 => by
    unfold t_rn
    rw [if_pos (by have := h1 0 (by omega); simpa using this), t_rn_run c j (i + 1) (by omega) (fun x hx => by have := h1 (x + 1) (by omega); rwa [show i + (x + 1) = i + 1 + x by omega] at this) (by
      rcases h2 with z | z
      · exact Or.inl (by omega)
      · exact Or.inr (by rwa [show i + (c + 1) = i + 1 + c by omega] at z))]
    omega
/-- the next token -/
theorem t_adv_tk {q : ch_N} {sp tk l : List Int32} {k : Int32} (h : o_pz q (sp ++ (tk ++ l))) (hsp : ∀ x, x ∈ sp → t_kd x = 3 ∧ x ≠ -1) (ht : 0 < tk.length) (hk : ∀ x, x ∈ tk → t_kd x = k) (h3 : k ≠ 3)
    (hl : ((k = 1 ∨ k = 2) ∧ (l = [] ∨ ¬ t_kd (l.getD 0 0) = k)) ∨ (¬ (k = 1 ∨ k = 2) ∧ tk.length = 1)) : o_tk (t_adv q) k tk l := by
  obtain ⟨h1, p, h6, h4, h7, hb⟩ := h
  have eL : (sp ++ (tk ++ l)).length = sp.length + (tk.length + l.length) := by simp
  rw [eL] at h4 h7 hb
  have en : t_n q = p := by unfold t_n; rw [h6, nI_clamp (by omega)]
  have ee : t_e q = p + (sp.length + (tk.length + l.length)) := by unfold t_e; rw [h4, nI_clamp (by omega)]
  have hat : ∀ i, i < sp.length + (tk.length + l.length) → t_at (q 13 0) (t_e q) (p + i) = (sp ++ (tk ++ l)).getD i 0 := fun i hi => by
    unfold t_at
    rw [if_pos (by rw [ee]; omega), hb i hi]
  have k1 : ∀ i, i < sp.length → t_k (q 13 0) (t_e q) (p + i) = 3 := fun i hi => by
    unfold t_k
    rw [hat i (by omega), gd_l _ _ hi]
    exact (hsp _ (gd_m hi)).1
  have k2 : ∀ i, i < tk.length → t_k (q 13 0) (t_e q) (p + sp.length + i) = k := fun i hi => by
    unfold t_k
    rw [Nat.add_assoc, hat _ (by omega), gd_r, gd_l _ _ hi]
    exact hk _ (gd_m hi)
  have es : t_ns (q 13 0) (t_e q) (t_n q) = p + sp.length := by
    unfold t_ns
    rw [en]
    refine t_rn_run sp.length _ p (by rw [ee]; omega) k1 (Or.inr ?_)
    rw [show p + sp.length = p + sp.length + 0 by omega, k2 0 ht]
    exact h3
  have ek : t_k (q 13 0) (t_e q) (p + sp.length) = k := k2 0 ht
  have e0 : t_n0 (t_e q) (p + sp.length) = p + sp.length + 1 := by
    unfold t_n0
    rw [ee]
    split <;> omega
  have enn : t_nn (q 13 0) (t_e q) (p + sp.length) = p + sp.length + tk.length := by
    unfold t_nn
    rw [ek, e0]
    rcases hl with ⟨ha, hz⟩ | ⟨ha, hz⟩
    · rw [if_pos ha, t_rn_run (tk.length - 1) _ _ (by rw [ee]; omega) (fun x hx => by have := k2 (x + 1) (by omega); rwa [show p + sp.length + (x + 1) = p + sp.length + 1 + x by omega] at this) ?_]
      · omega
      · rcases hz with z | z
        · left
          rw [ee, z]
          simp
          omega
        · by_cases g : l.length = 0
          · left
            rw [ee, g]
            omega
          · right
            unfold t_k
            rw [show p + sp.length + 1 + (tk.length - 1) = p + (sp.length + (tk.length + 0)) by omega, hat _ (by omega), gd_r, gd_r]
            exact z
    · rw [if_neg ha]; omega
  have ea : t_adv q = t_st q (p + sp.length) (p + sp.length + tk.length) k := by
    unfold t_adv
    rw [if_neg (fun z => z h1), es, enn, ek]
  rw [ea]
  refine ⟨?_, ?_, p + sp.length, ?_, ?_, ?_, by omega, fun i hi => ?_⟩
  · rw [t_st_at]; simp; exact h1
  · rw [t_st_at]; simp
  · rw [t_st_at]; simp
  · rw [t_st_at]; simp
  · rw [t_st_at]; simp; rw [h4]; congr 1; omega
  · rw [t_st_13, Nat.add_assoc, hb _ (by omega), gd_r]
theorem t_adv_end {q : ch_N} (h : o_pz q []) : (t_adv q) 12 0 1 = 0 ∧ t_go (t_adv q) = false := by
  obtain ⟨h1, p, h6, h4, h7, -⟩ := h
  have en : t_n q = p := by unfold t_n; rw [h6, nI_clamp (by simp at h7; omega)]
  have ee : t_e q = p := by unfold t_e; rw [h4]; simp; rw [nI_clamp (by simp at h7; omega)]
  have es : t_ns (q 13 0) (t_e q) (t_n q) = p := by unfold t_ns; rw [en, ee, Nat.sub_self]; rfl
  have e7 : (t_adv q) 12 0 1 = 0 := by
    unfold t_adv
    rw [if_neg (fun z => z h1), t_st_at]
    simp
    exact h1
  refine ⟨e7, ?_⟩
  unfold t_go
  have e5 : (t_adv q) 12 0 5 = nI p := by
    unfold t_adv
    rw [if_neg (fun z => z h1), es, t_st_at]
    simp
  have e4 : (t_adv q) 12 0 4 = nI p := by
    unfold t_adv
    rw [if_neg (fun z => z h1), t_st_at]
    simp
    rw [h4]
    simp
  rw [e5, e4]
  simp [Int32.lt_irrefl]
theorem p_D_dg : ∀ d, d < 10 → t_kd (nI (48 + d)) = 2 := by decide
theorem p_D_k {v : Nat} (hv : v < 1000) : ∀ x, x ∈ p_D v → t_kd x = 2 := by
  intro x hx
  unfold p_D at hx
  split at hx
  · simp at hx; subst hx; exact p_D_dg _ (by omega)
  · split at hx
    · simp at hx; rcases hx with rfl | rfl <;> exact p_D_dg _ (by omega)
    · simp at hx; rcases hx with rfl | rfl | rfl <;> exact p_D_dg _ (by omega)
theorem p_D_l (v : Nat) : 0 < (p_D v).length := by unfold p_D; split; · simp
                                                   split <;> simp
theorem p_ns_0 (vs : List Nat) (L : List Int32) : ¬ t_kd ((p_ns vs ++ L).getD 0 0) = 2 ∧ ¬ t_kd ((p_ns vs ++ L).getD 0 0) = 1 := by
  cases vs with
  | nil => exact ⟨show ¬ t_kd 59 = 2 by decide, show ¬ t_kd 59 = 1 by decide⟩
  | cons v vs => exact ⟨show ¬ t_kd 32 = 2 by decide, show ¬ t_kd 32 = 1 by decide⟩
theorem adv_num {q : ch_N} {v : Nat} {vs : List Nat} {L : List Int32} (hv : v < 1000) (h : o_pz q (p_ns (v :: vs) ++ L)) : o_tk (t_adv q) 2 (p_D v) (p_ns vs ++ L) := by
  refine t_adv_tk (sp := [32]) (by simpa [p_ns] using h) (fun x hx => ?_) (p_D_l v) (p_D_k hv) (by decide) (Or.inl ⟨Or.inr rfl, Or.inr (p_ns_0 vs L).1⟩)
  simp at hx
  subst hx
  exact ⟨by decide, by decide⟩
theorem adv_semi {q : ch_N} {L : List Int32} (h : o_pz q (p_ns [] ++ L)) : o_tk (t_adv q) 4 [59] L := by
  refine t_adv_tk (sp := []) (by simpa [p_ns] using h) (fun x hx => absurd hx (by simp)) (by simp) (fun x hx => ?_) (by decide) (Or.inr ⟨by decide, rfl⟩)
  simp at hx
  subst hx
  decide
theorem p_w_k : ∀ a, a < 4 → 0 < a → ∀ x, x ∈ p_w a → t_kd x = 1 := by decide
theorem p_w_l : ∀ a, a < 4 → 0 < a → 0 < (p_w a).length := by decide
theorem adv_word {q : ch_N} {a : Nat} {vs : List Nat} {L : List Int32} (ha : 0 < a ∧ a < 4) (h : o_pz q (p_w a ++ (p_ns vs ++ L))) : o_tk (t_adv q) 1 (p_w a) (p_ns vs ++ L) :=
  t_adv_tk (sp := []) (by simpa using h) (fun x hx => absurd hx (by simp)) (p_w_l a ha.2 ha.1) (p_w_k a ha.2 ha.1) (by decide) (Or.inl ⟨Or.inl rfl, Or.inr (p_ns_0 vs L).2⟩)
def p_val (l : List Int32) : Int32 := l.foldl (fun r x => if r < 100000 then r * 10 + (x - 48) else r) 0
theorem p_D_v : ∀ v, v < 1000 → p_val (p_D v) = nI v := by decide +kernel
theorem kf_sh {α : Type} (f : Nat → α → α) : ∀ (N : Nat) (a : α), kf f (N + 1) a = kf (fun i => f (i + 1)) N (f 0 a)
  | 0, _ => rfl
  | N + 1, a => by
    rw [kf_s, kf_sh f N a, kf_s]
theorem kf_fold {F : Int32 → Int32 → Int32} : ∀ (l : List Int32) (g : Nat → Int32) (a : Int32), (∀ i, i < l.length → g i = l.getD i 0) → kf (fun i r => F r (g i)) l.length a = l.foldl F a
  | [], _, _, _ => rfl
  | x :: l, g, a, h => by
    have e : (x :: l).length = l.length + 1 := rfl
    rw [e, kf_sh, List.foldl_cons]
    have h0 : g 0 = x := by rw [h 0 (by simp)]; rfl
    rw [h0]
    exact kf_fold l (fun i => g (i + 1)) (F a x) (fun i hi => by rw [h (i + 1) (by simp; exact hi)]; rfl)
theorem tk_num {q : ch_N} {k : Int32} {tok l : List Int32} (h : o_tk q k tok l) : t_num q (t_n q - t_s q) = p_val tok := by
  obtain ⟨h1, -, s, h5, h6, h4, h7, hb⟩ := h
  have en : t_n q = s + tok.length := by unfold t_n; rw [h6, nI_clamp (by omega)]
  have es : t_s q = s := by unfold t_s; rw [h5, nI_clamp (by omega)]
  have ee : t_e q = s + (tok.length + l.length) := by unfold t_e; rw [h4, nI_clamp (by omega)]
  rw [en, es, show s + tok.length - s = tok.length by omega]
  unfold t_num p_val
  refine kf_fold (F := fun r x => if r < 100000 then r * 10 + (x - 48) else r) tok _ 0 (fun i hi => ?_)
  unfold t_at
  rw [es, ee, if_pos (by omega), hb i (by omega), gd_l _ _ hi]
theorem tk_see {q : ch_N} {v : Nat} {l : List Int32} {lo hi : Int32} (h : o_tk q 2 (p_D v) l) (hv : v < 1000) (h1 : ¬ nI v < lo) (h2 : ¬ hi < nI v) : t_see q lo hi = (nI v, q) := by
  unfold t_see
  rw [if_pos h.2.1]
  unfold t_sn
  rw [if_neg (fun z => z h.1), tk_num h, p_D_v v hv, if_neg (fun z => by rcases z with z | z; exact h1 z; exact h2 z)]
theorem tk_take {q : ch_N} {v : Nat} {l : List Int32} {lo hi : Int32} (h : o_tk q 2 (p_D v) l) (hv : v < 1000) (h1 : ¬ nI v < lo) (h2 : ¬ hi < nI v) : t_take q lo hi = (nI v, t_adv q) := by
  unfold t_take
  rw [tk_see h hv h1 h2]
theorem tk_is {q : ch_N} {k : Int32} {tok l : List Int32} (h : o_tk q k tok l) (a : Nat) : t_is q a = decide (tok = p_w a) := by
  obtain ⟨h1, -, s, h5, h6, h4, h7, hb⟩ := h
  have en : t_n q = s + tok.length := by unfold t_n; rw [h6, nI_clamp (by omega)]
  have es : t_s q = s := by unfold t_s; rw [h5, nI_clamp (by omega)]
  have ee : t_e q = s + (tok.length + l.length) := by unfold t_e; rw [h4, nI_clamp (by omega)]
  have hat : ∀ i, i < tok.length → t_at (q 13 0) (t_e q) (t_s q + i) = tok.getD i 0 := fun i hi => by
    unfold t_at
    rw [es, ee, if_pos (by omega), hb i (by omega), gd_l _ _ hi]
  have ew : (p_w a).length = k_len a := by unfold p_w; simp
  have ec : ∀ i, i < k_len a → (p_w a).getD i 0 = k_chr a i := fun i hi => by
    unfold p_w
    rw [List.getD_eq_getElem?_getD, List.getElem?_map, List.getElem?_range hi]
    rfl
  unfold t_is
  apply decide_eq_decide.mpr
  rw [en, es, show s + tok.length - s = tok.length by omega, es.symm]
  constructor
  · rintro ⟨-, e, g⟩
    refine List.ext_getElem (by rw [ew]; exact e) (fun i hi hi' => ?_)
    have := g i (by omega)
    rw [hat i hi, ← ec i (by omega), List.getD_eq_getElem?_getD, List.getD_eq_getElem?_getD, List.getElem?_eq_getElem hi, List.getElem?_eq_getElem hi'] at this
    exact this
  · intro e
    subst e
    exact ⟨h1, ew, fun i hi => by rw [hat i (by omega), ec i hi]⟩
