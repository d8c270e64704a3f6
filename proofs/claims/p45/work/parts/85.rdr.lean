theorem ch_rt_kd {a b c j : Nat} {r : Nat × Nat × Nat} (h : ch_rt a b c j = some r) : r.2.1 ≤ 33 := by
  unfold ch_rt at h
  split at h
  all_goals first
    | (split at h <;> first | (cases h; exact Nat.le_of_ble_eq_true rfl) | cases h)
    | cases h
/-! load and query of the class -/
theorem ch_I_ng {E : ch_E} {S : ch_S} {μ : ch_M} {H : Heap} {k kd i ci : Nat} (hk : ch_kd kd = .inl ci) (hr : ∀ j, ch_rs ci j = true) (hz : ∀ j, ch_zs ci j = false) (h : ch_I E S μ H) : ch_I E S (ch_z μ k kd i) H := by
  refine ⟨fun a b c hv => ?_, h.2.1, h.2.2.1, fun a b c ci' j hv hc hz' => ?_⟩
  · by_cases e : a = k ∧ b = kd ∧ c = i
    · obtain ⟨rfl, rfl, rfl⟩ := e
      have h1 := h.1 a b c hv
      rw [ch_ct_o hk] at h1 ⊢
      have e2 : ch_fs S (ch_z μ a b c) ci a b c = ch_fs S μ ci a b c := by
        unfold ch_fs
        congr 1
        funext j
        unfold ch_v
        rw [if_pos (hr j), if_pos (hr j)]
      rw [e2]; exact h1
    · rw [ch_ct_congr (S' := S) (μ' := μ) rfl (ch_z_n e)]; exact h.1 a b c hv
  · by_cases e : a = k ∧ b = kd ∧ c = i
    · obtain ⟨rfl, rfl, rfl⟩ := e
      rw [ch_z_0]; exact Or.inl rfl
    · rw [ch_z_n e]; exact h.2.2.2 a b c ci' j hv hc hz'
theorem ch_I_gn {E : ch_E} {S : ch_S} {μ : ch_M} {H : Heap} {k kd i ci : Nat} (hk : ch_kd kd = .inl ci) (hr : ∀ j, ch_rs ci j = true) (hz : ∀ j, ch_zs ci j = false) (h : ch_I E S (ch_z μ k kd i) H) : ch_I E S μ H := by
  refine ⟨fun a b c hv => ?_, h.2.1, h.2.2.1, fun a b c ci' j hv hc hz' => ?_⟩
  · by_cases e : a = k ∧ b = kd ∧ c = i
    · obtain ⟨rfl, rfl, rfl⟩ := e
      have h1 := h.1 a b c hv
      rw [ch_ct_o hk] at h1 ⊢
      have e2 : ch_fs S (ch_z μ a b c) ci a b c = ch_fs S μ ci a b c := by
        unfold ch_fs
        congr 1
        funext j
        unfold ch_v
        rw [if_pos (hr j), if_pos (hr j)]
      rw [← e2]; exact h1
    · rw [ch_ct_congr (S' := S) (μ' := ch_z μ k kd i) rfl (ch_z_n e).symm]; exact h.1 a b c hv
  · by_cases e : a = k ∧ b = kd ∧ c = i
    · obtain ⟨rfl, rfl, rfl⟩ := e
      cases hk.symm.trans hc
      rw [hz j] at hz'; cases hz'
    · have h4 := h.2.2.2 a b c ci' j hv hc hz'
      rw [ch_z_n e] at h4; exact h4
section
variable {X : ch_X} {E : ch_E} {own : String} {cc : ByteArray} {nL : Nat} {S : ch_S} {μ : ch_M} {kc ks pc : Nat} {L : List (Nat × Value)} {st : List Value}
theorem ca_ng {k kd i ci : Nat} (hk : ch_kd kd = .inl ci) (hr : ∀ j, ch_rs ci j = true) (hz : ∀ j, ch_zs ci j = false) (kk : ch_W X E nL S μ kc ks pc L st) : ch_W X E nL S (ch_z μ k kd i) kc ks pc L st :=
  fun H locs ls hI hS hl => kk H locs ls (ch_I_gn hk hr hz hI) hS hl
end
/-- a reader made anew: the other names stay -/
def s_rd (S : ch_S) (kd net q : Nat) : ch_S := s_rf (s_rf (s_ad S 15 kd 0 q) 15 kd 0 0 (S.1 15 12 0)) 15 kd 0 1 (S.1 net 0 0)
theorem s_rd_1 {S : ch_S} {kd net q a b c : Nat} (h : ¬ (a = 15 ∧ b = kd ∧ c = 0)) : (s_rd S kd net q).1 a b c = S.1 a b c := s_ad_n h
theorem s_rd_2 {S : ch_S} {kd net q a b c : Nat} (h : ¬ (a = 15 ∧ b = kd ∧ c = 0)) : (s_rd S kd net q).2.2 a b c = S.2.2 a b c := by
  funext j
  show (if _ then some _ else if _ then some _ else _) = _
  rw [if_neg (fun z => h ⟨z.1, z.2.1, z.2.2.1⟩), if_neg (fun z => h ⟨z.1, z.2.1, z.2.2.1⟩), s_ad_r h]
theorem ch_Std_rd {E : ch_E} {S : ch_S} {kd net q : Nat} (hs : ch_Std E S) (hk : kd = 35 ∨ kd = 36) : ch_Std E (s_rd S kd net q) := by
  have ne : ∀ a b c, ch_V a b c → ¬ (a = 15 ∧ b = kd ∧ c = 0) := by
    intro a b c hv e
    obtain ⟨rfl, rfl, rfl⟩ := e
    rcases hk with rfl | rfl <;> exact hv
  refine ⟨fun a b c hv => Or.inl (hs.1 a b c hv), fun a b c j r hv hr => ?_, trivial⟩
  · rw [s_rd_2 (ne a b c hv), hs.2.1 a b c j r hv hr]
    refine congrArg some (s_rd_1 (fun e => ?_)).symm
    have := ch_rt_kd hr
    rcases hk with rfl | rfl <;> omega
theorem ch_Rd_rd {S : ch_S} {kd net q : Nat} (hk : kd = 35 ∨ kd = 36) : ch_Rd (s_rd S kd net q) kd net := by
  refine ⟨s_ad_v S 15 kd 0 q, ?_, ?_⟩
  · rw [s_rd_1 (by omega)]
    show (if _ then some _ else if _ then some _ else _) = _
    rw [if_neg (by omega), if_pos ⟨rfl, rfl, rfl, rfl⟩]
  · rw [s_rd_1 (by omega)]
    show (if _ then some _ else _) = _
    rw [if_pos ⟨rfl, rfl, rfl, rfl⟩]
/-- what a call that makes a reader leaves -/
def c_PostL (E : ch_E) (S : ch_S) (kd : Nat) (v : Int32) (M : ch_M) : Option Value → ch_S → ch_M → Prop := fun v' S' μ' => v' = some (.int v) ∧ ch_Std E S' ∧ (∀ a b c, ¬ (a = 15 ∧ b = kd ∧ c = 0) → S'.1 a b c = S.1 a b c) ∧ (∀ a b c, ¬ (a = 15 ∧ b = kd ∧ c = 0) → S'.2.2 a b c = S.2.2 a b c ∧ (S'.2.1 a b c ↔ S.2.1 a b c)) ∧ μ' = M
set_option maxHeartbeats 400000 in
theorem c_X11_load_n {X : ch_X} {E : ch_E} {S : ch_S} {μ : ch_M} (hs : ch_Std E S) (h : ch_H X E RX11 cX11_load 2) {D : Nat} (hD : Nat.ble 3 D = true) (hG : ch_G X D 1 2) {L : List (Nat × Value)} (hL : ch_lk L 0 = some (.ref (S.1 15 11 0)))
    (kk : ∀ S', ch_Std E S' → ch_Rd S' 35 1 → (∀ a b c, ¬ (a = 15 ∧ b = 35 ∧ c = 0) → S'.1 a b c = S.1 a b c) → (∀ a b c, ¬ (a = 15 ∧ b = 35 ∧ c = 0) → S'.2.2 a b c = S.2.2 a b c ∧ (S'.2.1 a b c ↔ S.2.1 a b c)) → ch_W X E 2 S' μ 1 2 35 L [.ref (S'.1 15 35 0)]) : ch_W X E 2 S μ 0 0 20 L [] := by
  refine ca_newO h (ci := 4) 15 35 0 hG (Or.inr ⟨_, _, _, hs.1 15 11 0 ⟨rfl, rfl⟩⟩) rfl rfl li_X4 tyX4 tyX4_ok dvX4 rfl kw_954 kw_955 kw_23 ⟨Nat.le_of_ble_eq_true rfl, Nat.le_of_ble_eq_true rfl⟩ dX11_load_20 ?_
  intro q
  have hq : ∀ a b c, ¬ (a = 15 ∧ b = 35 ∧ c = 0) → (s_ad S 15 35 0 q).1 a b c = S.1 a b c := fun a b c e => s_ad_n e
  refine ca_ng (ci := 4) rfl (fun _ => rfl) (fun _ => rfl) ?_
  refine ca_dup h dX11_load_23 rfl ?_
  refine ca_aload_nr h dX11_load_24 hL ?_
  refine ca_tR (hq 15 11 0 (by decide)) ?_
  refine gr_X11_10 h (Or.inl (hs.1 15 11 0 ⟨rfl, rfl⟩)) ((congrFun (s_ad_r (by decide)) 0).trans (hs.2.1 15 11 0 0 _ ⟨rfl, rfl⟩ rfl)) dX11_load_25 ?_
  refine ca_aload_nr h dX11_load_28 hL ?_
  refine ca_tR (hq 15 11 0 (by decide)) ?_
  refine gr_X11_23 h (Or.inl (hs.1 15 11 0 ⟨rfl, rfl⟩)) ((congrFun (s_ad_r (by decide)) 2).trans (hs.2.1 15 11 0 2 _ ⟨rfl, rfl⟩ rfl)) dX11_load_29 ?_
  show ch_W X E 2 (s_ad S 15 35 0 q) μ (0 + 1) (0 + 2) 32 L [.ref (S.1 1 0 0), .ref (S.1 15 12 0), .ref q, .ref q]
  have ct := c_X4_init (l := x_l X) (E := E) (μ := μ) (net := 1) (s_ad_v S 15 35 0 q)
  rw [s_ad_s, s_ad_n (by decide), s_ad_n (by decide)] at ct
  refine ca_callI h hG kw_956 kw_957 kw_23 kw_958 ⟨by decide, by decide, by decide +kernel⟩ rfl (n := 2) (As := [.ref (S.1 15 12 0), .ref (S.1 1 0 0)]) (b := q) (st := [.ref q]) ct rfl rfl hD rfl ⟨Nat.le_of_ble_eq_true rfl, Nat.le_of_ble_eq_true rfl⟩ rfl dX11_load_32 ?_
  rintro v S' μ' ⟨rfl, rfl, rfl⟩
  have e1 : (s_ad S 15 35 0 q).1 15 12 0 = S.1 15 12 0 := s_ad_n (by decide)
  have e2 : (s_ad S 15 35 0 q).1 1 0 0 = S.1 1 0 0 := s_ad_n (by decide)
  rw [e1, e2]
  have k9 := kk (s_rd S 35 1 q) (ch_Std_rd hs (by decide)) (ch_Rd_rd (by decide)) (fun a b c e => s_rd_1 e) (fun a b c e => ⟨s_rd_2 e, ⟨fun z => z.resolve_right e, Or.inl⟩⟩)
  rw [show (s_rd S 35 1 q).1 15 35 0 = q from s_ad_s S 15 35 0 q] at k9
  exact k9
