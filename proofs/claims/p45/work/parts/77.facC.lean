/-! THE FACADE: what it writes -/
theorem up_sw {α : Type} {f : Nat → α} {a b : Nat} {x y : α} (h : a ≠ b) : up (up f a x) b y = up (up f b y) a x := by
  funext c
  unfold up
  by_cases e : c = a
  · subst e; simp [h]
  · simp [e]
/-- bounds of the counts -/
def k_c8 (n : ch_N) : Prop := ∀ i c, i < 13 → c < 8 → ¬ n 5 i c < 0 ∧ Int32.toNatClampNeg (n 5 i c) ≤ 8
theorem k_wf_c8 {n : ch_N} (h : k_wf n) : k_c8 n := fun i c hi hc => ⟨(h.2.2.2.2.2 i c hi hc).1, (h.2.2.2.2.2 i c hi hc).2.1⟩
def k_rcm (μ : ch_M) (j : Nat) : ch_M := up (up μ (3 + j) (k_cp (μ (3 + j)) (μ 0))) 15 (k_rec (μ 15))
theorem k_rcm_0 (μ : ch_M) (j : Nat) : k_rcm μ j 0 = μ 0 := by unfold k_rcm; rw [up_n (by decide), up_n (by omega)]
theorem k_rcm_15 (μ : ch_M) (j : Nat) : k_rcm μ j 15 = k_rec (μ 15) := by unfold k_rcm; rw [up_s]
theorem c_X11_rec {l : Launch} {E : ch_E} {S : ch_S} {μ : ch_M} (hs : ch_Std E S) {j : Nat} (hj : j < 12) (hnx : μ 15 14 0 1 = nI j) : ch_C E l yX1_record cX1_record 3 none 4 0 0 S μ [.ref (S.1 15 14 0), .ref (S.1 0 0 0)] (ch_F none S (k_rcm μ j)) := c_X1_record hs (by decide) hj hnx
theorem k_tot0 (n : ch_N) : k_tot n 0 = n 7 0 0 := by unfold k_tot; rw [if_neg (by decide), if_pos (by decide)]; rfl
theorem k_tot3 (n : ch_N) : k_tot n 3 = n 7 0 3 := by unfold k_tot; rw [if_neg (by decide), if_pos (by decide)]; rfl
theorem t_app_f (q : ch_N) (w : Int32) : ∀ N, t_app q w N 12 0 0 = q 12 0 0 + nI N
  | 0 => by unfold t_app; rw [kf_z]; exact (Int32.add_zero _).symm
  | N + 1 => by rw [t_app_s, nw_at, if_pos ⟨rfl, rfl, rfl⟩, t_app_f q w N, Int32.add_assoc, nI_1]
def k_fd (q : ch_N) (a b c d e : Int32) : ch_N := t_app (t_app (t_app (t_app (t_app q a 4) b 4) c 4) d 4) e 4
def k_amN (n : ch_N) (M : Nat) (x y vx vy : Int32) : ch_N := k_plc (nw n 0 0 2 (nI (M + 1))) M x y vx vy
def r_bh (D H : Nat → Int32) : Nat → Int32 × Int32 × Int32 := fun N => kf (fun v s => if s.1 = -1 ∨ D v < s.2.1 ∨ (D v = s.2.1 ∧ H v < s.2.2) then (nI v, D v, H v) else s) N (-1, 0, 0)
theorem r_bh_s (D H : Nat → Int32) (v : Nat) : r_bh D H (v + 1) = if (r_bh D H v).1 = -1 ∨ D v < (r_bh D H v).2.1 ∨ (D v = (r_bh D H v).2.1 ∧ H v < (r_bh D H v).2.2) then (nI v, D v, H v) else r_bh D H v := rfl
/-- the trials of bestHysteresis -/
def k_bhI (n : ch_N) (T a b : Nat) (s : ch_N × ch_N) : Nat → ch_N × ch_N := fun N => kf (fun v s => k_adv T (nw (k_cp s.1 n) 2 (8 * a + b) 1 (nI v), s.2)) N s
theorem k_bhI_s (n : ch_N) (T a b : Nat) (s : ch_N × ch_N) (v : Nat) : k_bhI n T a b s (v + 1) = k_adv T (nw (k_cp (k_bhI n T a b s v).1 n) 2 (8 * a + b) 1 (nI v), (k_bhI n T a b s v).2) := rfl
theorem k_bhI_z (n : ch_N) (T a b : Nat) (s : ch_N × ch_N) : k_bhI n T a b s 0 = s := rfl
def k_bhD (n : ch_N) (T a b : Nat) (s : ch_N × ch_N) (v : Nat) : Int32 := (k_bhI n T a b s (v + 1)).1 7 0 3
def k_bhH (n : ch_N) (T a b : Nat) (s : ch_N × ch_N) (v : Nat) : Int32 := (k_bhI n T a b s (v + 1)).1 7 0 0
def k_bst (D H : Nat → Int32) (n : Nat) : Int32 × Int32 × Int32 := if n = 0 then (0, 0, 0) else r_bh D H n
theorem r_bh_ne (D H : Nat → Int32) : ∀ v, v < 31 → ¬ (r_bh D H (v + 1)).1 = -1
  | 0, _ => by rw [r_bh_s, if_pos (Or.inl (show (r_bh D H 0).1 = -1 from rfl))]; exact (by decide : ¬ (nI 0 : Int32) = -1)
  | v + 1, hv => by
    rw [r_bh_s]
    split
    · intro z
      have := nI_pos (n := v + 1) (by omega)
      rw [show nI (v + 1) = -1 from z] at this
      exact this (by decide)
    · exact r_bh_ne D H v (by omega)
theorem k_bst_y {D H : Nat → Int32} {n : Nat} (hn : n < 31) (h : nI n = 0 ∨ D n < (k_bst D H n).2.1 ∨ (D n = (k_bst D H n).2.1 ∧ H n < (k_bst D H n).2.2)) : k_bst D H (n + 1) = (nI n, D n, H n) := by
  unfold k_bst
  rw [if_neg (by omega), r_bh_s]
  by_cases e : n = 0
  · subst e; rw [if_pos (Or.inl (show (r_bh D H 0).1 = -1 from rfl))]
  · have e' : ¬ nI n = 0 := nI_ne0 (by omega) (by omega)
    unfold k_bst at h
    rw [if_neg e] at h
    rw [if_pos (Or.inr (h.resolve_left e'))]
theorem k_bst_n {D H : Nat → Int32} {n : Nat} (hn : n < 31) (h : ¬ (nI n = 0 ∨ D n < (k_bst D H n).2.1 ∨ (D n = (k_bst D H n).2.1 ∧ H n < (k_bst D H n).2.2))) : k_bst D H (n + 1) = k_bst D H n := by
  by_cases e : n = 0
  · subst e; exact absurd (Or.inl rfl) h
  · unfold k_bst at h ⊢
    rw [if_neg e] at h ⊢
    rw [if_neg (by omega), r_bh_s]
    obtain ⟨v, rfl⟩ : ∃ v, n = v + 1 := ⟨n - 1, by omega⟩
    rw [if_neg (fun z => z.elim (r_bh_ne D H v (by omega)) (fun z => h (Or.inr z)))]
theorem k_bst_31 (D H : Nat → Int32) : k_bst D H 31 = r_bh D H 31 := by unfold k_bst; rw [if_neg (by decide)]
set_option maxHeartbeats 100000 in
theorem c_X11_addMobile {l : Launch} {E : ch_E} {S : ch_S} {μ : ch_M} (hs : ch_Std E S) {x y vx vy : Int32} (hx : k_rg 0 999 x) (hy : k_rg 0 999 y) (hvx : k_rg (-99) 99 vx) (hvy : k_rg (-99) 99 vy) {j : Nat} (hj : j < 12) (hnx : μ 15 14 0 1 = nI j) {M : Nat} (hM : μ 0 0 0 2 = nI M) (hM12 : M < 12) : ch_C E l yX11_addMobile cX11_addMobile 6 (some FieldType.int) 5 0 0 S μ [.ref (S.1 15 11 0), .int x, .int y, .int vx, .int vy] (ch_F (some (.int (nI M))) S (up (k_rcm μ j) 0 (k_amN (μ 0) M x y vx vy))) := by
  refine ch_enter rfl rfl ?_
  intro X hl0 h hG hR hnm
  have h : ch_H X E RX11 cX11_addMobile 6 := h
  have q0 : k_rg 0 999 x := hx
  have q1 : k_rg 0 999 y := hy
  have q2 : k_rg (-99) 99 vx := hvx
  have q3 : k_rg (-99) 99 vy := hvy
  show ch_W X E 6 S μ 0 0 0 [(0, .ref (S.1 15 11 0)), (1, .int x), (2, .int y), (3, .int vx), (4, .int vy)] []
  refine ca_iload_n h dX11_addMobile_0 rfl ?_
  refine ca_iconst h dX11_addMobile_1 ik_0 ?_
  refine ca_sipush h dX11_addMobile_2 sk_999 ?_
  refine ca_sv h hG ms_X11_62 (c_X11_requireRange q0) rfl rfl rfl rfl ⟨Nat.le_refl _, Nat.le_refl _⟩ rfl dX11_addMobile_5 ?_
  refine ca_iload_n h dX11_addMobile_8 rfl ?_
  refine ca_iconst h dX11_addMobile_9 ik_0 ?_
  refine ca_sipush h dX11_addMobile_10 sk_999 ?_
  refine ca_sv h hG ms_X11_62 (c_X11_requireRange q1) rfl rfl rfl rfl ⟨Nat.le_refl _, Nat.le_refl _⟩ rfl dX11_addMobile_13 ?_
  refine ca_iload_n h dX11_addMobile_16 rfl ?_
  refine ca_bipush h dX11_addMobile_17 bk_m99 ?_
  refine ca_bipush h dX11_addMobile_19 bk_99 ?_
  refine ca_sv h hG ms_X11_62 (c_X11_requireRange q2) rfl rfl rfl rfl ⟨Nat.le_refl _, Nat.le_refl _⟩ rfl dX11_addMobile_21 ?_
  refine ca_iload h dX11_addMobile_24 rfl ?_
  refine ca_bipush h dX11_addMobile_26 bk_m99 ?_
  refine ca_bipush h dX11_addMobile_28 bk_99 ?_
  refine ca_sv h hG ms_X11_62 (c_X11_requireRange q3) rfl rfl rfl rfl ⟨Nat.le_refl _, Nat.le_refl _⟩ rfl dX11_addMobile_30 ?_
  refine ca_aload_nr h dX11_addMobile_33 rfl ?_
  refine gs_X11_19 h hs (by show _ ∧ _; exact ⟨by first | assumption | rfl | omega, by first | assumption | rfl | omega⟩) dX11_addMobile_34 ?_
  refine gi_X11_99 h (hs.1 _ _ _ (by show _ ∧ _; exact ⟨by first | assumption | rfl | omega, by first | assumption | rfl | omega⟩)) dX11_addMobile_37 ?_
  refine ca_bipush h dX11_addMobile_40 bk_12 ?_
  refine ca_icmp_lt (tgt := 48) h dX11_addMobile_42 (by decide) (fun c_42 => ?_) (fun c_42 => ?_)
  ·
    refine ca_aload_nr h dX11_addMobile_48 rfl ?_
    refine gs_X11_32 h hs (by show _ ∧ _; exact ⟨by first | assumption | rfl | omega, by first | assumption | rfl | omega⟩) dX11_addMobile_49 ?_
    refine ca_aload_nr h dX11_addMobile_52 rfl ?_
    refine gs_X11_19 h hs (by show _ ∧ _; exact ⟨by first | assumption | rfl | omega, by first | assumption | rfl | omega⟩) dX11_addMobile_53 ?_
    refine ca_vv h hG ml_X11_140 (c_X11_rec hs hj hnx) (ci := 1) rfl rfl rfl (hs.1 _ _ _ (by show _ ∧ _; exact ⟨by first | assumption | rfl | omega, by first | assumption | rfl | omega⟩)) rfl rfl rfl rfl ⟨Nat.le_refl _, Nat.le_refl _⟩ rfl dX11_addMobile_56 ?_
    refine ca_aload_nr h dX11_addMobile_59 rfl ?_
    refine gs_X11_19 h hs (by show _ ∧ _; exact ⟨by first | assumption | rfl | omega, by first | assumption | rfl | omega⟩) dX11_addMobile_60 ?_
    refine gi_X11_99 h (hs.1 _ _ _ (by show _ ∧ _; exact ⟨by first | assumption | rfl | omega, by first | assumption | rfl | omega⟩)) dX11_addMobile_63 ?_
    rw [k_rcm_0, hM]
    refine ca_istore h dX11_addMobile_66 rfl ?_
    refine ca_aload_nr h dX11_addMobile_68 rfl ?_
    refine gs_X11_19 h hs (by show _ ∧ _; exact ⟨by first | assumption | rfl | omega, by first | assumption | rfl | omega⟩) dX11_addMobile_69 ?_
    refine ca_iload h dX11_addMobile_72 rfl ?_
    refine ca_iconst h dX11_addMobile_74 ik_1 ?_
    refine ca_iadd h dX11_addMobile_75 ?_
    rw [nI_1]
    refine pi_X11_99 h (hs.1 _ _ _ (by show _ ∧ _; exact ⟨by first | assumption | rfl | omega, by first | assumption | rfl | omega⟩)) dX11_addMobile_76 ?_
    refine ca_aload_nr h dX11_addMobile_79 rfl ?_
    refine gs_X11_19 h hs (by show _ ∧ _; exact ⟨by first | assumption | rfl | omega, by first | assumption | rfl | omega⟩) dX11_addMobile_80 ?_
    refine ca_iload h dX11_addMobile_83 rfl ?_
    refine ca_vr h hG ml_X11_143 (c_X3_mobileJ hs (by decide) hM12) (ci := 3) rfl rfl rfl (hs.1 _ _ _ (by show _ ∧ _; exact ⟨by first | assumption | rfl | omega, by first | assumption | rfl | omega⟩)) rfl rfl rfl rfl ⟨Nat.le_refl _, Nat.le_refl _⟩ rfl dX11_addMobile_85 ?_
    refine ca_iload_n h dX11_addMobile_88 rfl ?_
    refine ca_iload_n h dX11_addMobile_89 rfl ?_
    refine ca_iload_n h dX11_addMobile_90 rfl ?_
    refine ca_iload h dX11_addMobile_91 rfl ?_
    refine ca_vv h hG ml_X11_147 (c_X2_place hs (by decide) (by omega)) (ci := 2) rfl rfl rfl (hs.1 _ _ _ (by show _ ∧ _; exact ⟨by first | assumption | rfl | omega, by first | assumption | rfl | omega⟩)) rfl rfl rfl rfl ⟨Nat.le_refl _, Nat.le_refl _⟩ rfl dX11_addMobile_93 ?_
    refine ca_iload h dX11_addMobile_96 rfl ?_
    refine ca_ireturn h hR rfl dX11_addMobile_98 ?_
    exact ⟨rfl, rfl, by simp only [ch_st_nw, up_s, up_up, k_rcm_0]; rfl⟩
  · exact absurd (by rw [hM]; exact nI_lt (b := 12) hM12 (by decide)) c_42
set_option maxHeartbeats 100000 in
theorem c_X11_addMobileF {l : Launch} {E : ch_E} {S : ch_S} {μ : ch_M} (hs : ch_Std E S) {x y vx vy : Int32} (hx : k_rg 0 999 x) (hy : k_rg 0 999 y) (hvx : k_rg (-99) 99 vx) (hvy : k_rg (-99) 99 vy) (hM : ¬ μ 0 0 0 2 < 12) : ch_C E l yX11_addMobile cX11_addMobile 6 (some FieldType.int) 5 0 0 S μ [.ref (S.1 15 11 0), .int x, .int y, .int vx, .int vy] (ch_F (some (.int ((-2)))) S (μ)) := by
  refine ch_enter rfl rfl ?_
  intro X hl0 h hG hR hnm
  have h : ch_H X E RX11 cX11_addMobile 6 := h
  have q0 : k_rg 0 999 x := hx
  have q1 : k_rg 0 999 y := hy
  have q2 : k_rg (-99) 99 vx := hvx
  have q3 : k_rg (-99) 99 vy := hvy
  show ch_W X E 6 S μ 0 0 0 [(0, .ref (S.1 15 11 0)), (1, .int x), (2, .int y), (3, .int vx), (4, .int vy)] []
  refine ca_iload_n h dX11_addMobile_0 rfl ?_
  refine ca_iconst h dX11_addMobile_1 ik_0 ?_
  refine ca_sipush h dX11_addMobile_2 sk_999 ?_
  refine ca_sv h hG ms_X11_62 (c_X11_requireRange q0) rfl rfl rfl rfl ⟨Nat.le_refl _, Nat.le_refl _⟩ rfl dX11_addMobile_5 ?_
  refine ca_iload_n h dX11_addMobile_8 rfl ?_
  refine ca_iconst h dX11_addMobile_9 ik_0 ?_
  refine ca_sipush h dX11_addMobile_10 sk_999 ?_
  refine ca_sv h hG ms_X11_62 (c_X11_requireRange q1) rfl rfl rfl rfl ⟨Nat.le_refl _, Nat.le_refl _⟩ rfl dX11_addMobile_13 ?_
  refine ca_iload_n h dX11_addMobile_16 rfl ?_
  refine ca_bipush h dX11_addMobile_17 bk_m99 ?_
  refine ca_bipush h dX11_addMobile_19 bk_99 ?_
  refine ca_sv h hG ms_X11_62 (c_X11_requireRange q2) rfl rfl rfl rfl ⟨Nat.le_refl _, Nat.le_refl _⟩ rfl dX11_addMobile_21 ?_
  refine ca_iload h dX11_addMobile_24 rfl ?_
  refine ca_bipush h dX11_addMobile_26 bk_m99 ?_
  refine ca_bipush h dX11_addMobile_28 bk_99 ?_
  refine ca_sv h hG ms_X11_62 (c_X11_requireRange q3) rfl rfl rfl rfl ⟨Nat.le_refl _, Nat.le_refl _⟩ rfl dX11_addMobile_30 ?_
  refine ca_aload_nr h dX11_addMobile_33 rfl ?_
  refine gs_X11_19 h hs (by show _ ∧ _; exact ⟨by first | assumption | rfl | omega, by first | assumption | rfl | omega⟩) dX11_addMobile_34 ?_
  refine gi_X11_99 h (hs.1 _ _ _ (by show _ ∧ _; exact ⟨by first | assumption | rfl | omega, by first | assumption | rfl | omega⟩)) dX11_addMobile_37 ?_
  refine ca_bipush h dX11_addMobile_40 bk_12 ?_
  refine ca_icmp_lt (tgt := 48) h dX11_addMobile_42 (by decide) (fun c_42 => ?_) (fun c_42 => ?_)
  · exact absurd c_42 hM
  ·
    refine ca_bipush h dX11_addMobile_45 bk_m2 ?_
    refine ca_ireturn h hR rfl dX11_addMobile_47 ?_
    exact ⟨rfl, rfl, rfl⟩
set_option maxHeartbeats 100000 in
theorem c_X11_setVelocity {l : Launch} {E : ch_E} {S : ch_S} {μ : ch_M} (hs : ch_Std E S) {m : Nat} (hm12 : k_mc (μ 0) ≤ 12) (hm : m < k_mc (μ 0)) {vx vy : Int32} (hvx : k_rg (-99) 99 vx) (hvy : k_rg (-99) 99 vy) {j : Nat} (hj : j < 12) (hnx : μ 15 14 0 1 = nI j) : ch_C E l yX11_setVelocity cX11_setVelocity 5 (some FieldType.int) 5 0 0 S μ [.ref (S.1 15 11 0), .int (nI m), .int vx, .int vy] (ch_F (some (.int (μ 0 3 m 4))) S (up (k_rcm μ j) 0 (nw (nw (μ 0) 3 m 2 vx) 3 m 3 vy))) := by
  refine ch_enter rfl rfl ?_
  intro X hl0 h hG hR hnm
  have h : ch_H X E RX11 cX11_setVelocity 5 := h
  have q0 : k_ism (μ 0) (nI m) := k_ism_n hm
  have q1 : k_rg (-99) 99 vx := hvx
  have q2 : k_rg (-99) 99 vy := hvy
  have hm2 : m < 12 := by omega
  show ch_W X E 5 S μ 0 0 0 [(0, .ref (S.1 15 11 0)), (1, .int (nI m)), (2, .int vx), (3, .int vy)] []
  refine ca_aload_nr h dX11_setVelocity_0 rfl ?_
  refine ca_iload_n h dX11_setVelocity_1 rfl ?_
  refine ca_vv h hG ml_X11_153 (c_X11_requireMobile hs q0) (ci := 11) rfl rfl rfl (hs.1 _ _ _ (by show _ ∧ _; exact ⟨by first | assumption | rfl | omega, by first | assumption | rfl | omega⟩)) rfl rfl rfl rfl ⟨Nat.le_refl _, Nat.le_refl _⟩ rfl dX11_setVelocity_2 ?_
  refine ca_iload_n h dX11_setVelocity_5 rfl ?_
  refine ca_bipush h dX11_setVelocity_6 bk_m99 ?_
  refine ca_bipush h dX11_setVelocity_8 bk_99 ?_
  refine ca_sv h hG ms_X11_62 (c_X11_requireRange q1) rfl rfl rfl rfl ⟨Nat.le_refl _, Nat.le_refl _⟩ rfl dX11_setVelocity_10 ?_
  refine ca_iload_n h dX11_setVelocity_13 rfl ?_
  refine ca_bipush h dX11_setVelocity_14 bk_m99 ?_
  refine ca_bipush h dX11_setVelocity_16 bk_99 ?_
  refine ca_sv h hG ms_X11_62 (c_X11_requireRange q2) rfl rfl rfl rfl ⟨Nat.le_refl _, Nat.le_refl _⟩ rfl dX11_setVelocity_18 ?_
  refine ca_aload_nr h dX11_setVelocity_21 rfl ?_
  refine gs_X11_32 h hs (by show _ ∧ _; exact ⟨by first | assumption | rfl | omega, by first | assumption | rfl | omega⟩) dX11_setVelocity_22 ?_
  refine ca_aload_nr h dX11_setVelocity_25 rfl ?_
  refine gs_X11_19 h hs (by show _ ∧ _; exact ⟨by first | assumption | rfl | omega, by first | assumption | rfl | omega⟩) dX11_setVelocity_26 ?_
  refine ca_vv h hG ml_X11_140 (c_X11_rec hs hj hnx) (ci := 1) rfl rfl rfl (hs.1 _ _ _ (by show _ ∧ _; exact ⟨by first | assumption | rfl | omega, by first | assumption | rfl | omega⟩)) rfl rfl rfl rfl ⟨Nat.le_refl _, Nat.le_refl _⟩ rfl dX11_setVelocity_29 ?_
  refine ca_aload_nr h dX11_setVelocity_32 rfl ?_
  refine gs_X11_19 h hs (by show _ ∧ _; exact ⟨by first | assumption | rfl | omega, by first | assumption | rfl | omega⟩) dX11_setVelocity_33 ?_
  refine ca_iload_n h dX11_setVelocity_36 rfl ?_
  refine ca_vr h hG ml_X11_143 (c_X3_mobileJ hs (by decide) hm2) (ci := 3) rfl rfl rfl (hs.1 _ _ _ (by show _ ∧ _; exact ⟨by first | assumption | rfl | omega, by first | assumption | rfl | omega⟩)) rfl rfl rfl rfl ⟨Nat.le_refl _, Nat.le_refl _⟩ rfl dX11_setVelocity_37 ?_
  refine ca_astore h dX11_setVelocity_40 rfl ?_
  refine ca_aload h dX11_setVelocity_42 rfl ?_
  refine ca_iload_n h dX11_setVelocity_44 rfl ?_
  refine pi_X11_156 h (hs.1 _ _ _ (by show _ ∧ _; exact ⟨by first | assumption | rfl | omega, by first | assumption | rfl | omega⟩)) dX11_setVelocity_45 ?_
  refine ca_aload h dX11_setVelocity_48 rfl ?_
  refine ca_iload_n h dX11_setVelocity_50 rfl ?_
  refine pi_X11_159 h (hs.1 _ _ _ (by show _ ∧ _; exact ⟨by first | assumption | rfl | omega, by first | assumption | rfl | omega⟩)) dX11_setVelocity_51 ?_
  refine ca_aload h dX11_setVelocity_54 rfl ?_
  refine gi_X11_162 h (hs.1 _ _ _ (by show _ ∧ _; exact ⟨by first | assumption | rfl | omega, by first | assumption | rfl | omega⟩)) dX11_setVelocity_56 ?_
  refine ca_ireturn h hR rfl dX11_setVelocity_59 ?_
  exact ⟨by simp only [ch_st_nw, up_s, k_rcm_0, nw_at]; simp, rfl, by simp only [ch_st_nw, up_s, up_up, k_rcm_0]⟩
set_option maxHeartbeats 100000 in
theorem c_X11_callB {l : Launch} {E : ch_E} {S : ch_S} {μ : ch_M} (hs : ch_Std E S) {m : Nat} (hw : k_wf (μ 0)) (hm : m < k_mc (μ 0)) {d : Int32} (hd : k_rg 1 500 d) (h0 : ¬ μ 0 3 m 4 = 0) : ch_C E l yX11_call cX11_call 5 (some FieldType.int) 6 0 0 S μ [.ref (S.1 15 11 0), .int (nI m), .int d] (ch_F (some (.int ((-2)))) S (μ)) := by
  refine ch_enter rfl rfl ?_
  intro X hl0 h hG hR hnm
  have h : ch_H X E RX11 cX11_call 5 := h
  have q0 : k_ism (μ 0) (nI m) := k_ism_n hm
  have q1 : k_rg 1 500 d := hd
  have hm12 := hw.1
  have hc8 := hw.2.1
  have hm2 : m < 12 := by omega
  show ch_W X E 5 S μ 0 0 0 [(0, .ref (S.1 15 11 0)), (1, .int (nI m)), (2, .int d)] []
  refine ca_aload_nr h dX11_call_0 rfl ?_
  refine ca_iload_n h dX11_call_1 rfl ?_
  refine ca_vv h hG ml_X11_153 (c_X11_requireMobile hs q0) (ci := 11) rfl rfl rfl (hs.1 _ _ _ (by show _ ∧ _; exact ⟨by first | assumption | rfl | omega, by first | assumption | rfl | omega⟩)) rfl rfl rfl rfl ⟨Nat.le_refl _, Nat.le_refl _⟩ rfl dX11_call_2 ?_
  refine ca_iload_n h dX11_call_5 rfl ?_
  refine ca_iconst h dX11_call_6 ik_1 ?_
  refine ca_sipush h dX11_call_7 sk_500 ?_
  refine ca_sv h hG ms_X11_62 (c_X11_requireRange q1) rfl rfl rfl rfl ⟨Nat.le_refl _, Nat.le_refl _⟩ rfl dX11_call_10 ?_
  refine ca_aload_nr h dX11_call_13 rfl ?_
  refine gs_X11_19 h hs (by show _ ∧ _; exact ⟨by first | assumption | rfl | omega, by first | assumption | rfl | omega⟩) dX11_call_14 ?_
  refine ca_iload_n h dX11_call_17 rfl ?_
  refine ca_vr h hG ml_X11_143 (c_X3_mobileJ hs (by decide) hm2) (ci := 3) rfl rfl rfl (hs.1 _ _ _ (by show _ ∧ _; exact ⟨by first | assumption | rfl | omega, by first | assumption | rfl | omega⟩)) rfl rfl rfl rfl ⟨Nat.le_refl _, Nat.le_refl _⟩ rfl dX11_call_18 ?_
  refine ca_astore_n h dX11_call_21 rfl ?_
  refine ca_aload_nr h dX11_call_22 rfl ?_
  refine gi_X11_162 h (hs.1 _ _ _ (by show _ ∧ _; exact ⟨by first | assumption | rfl | omega, by first | assumption | rfl | omega⟩)) dX11_call_23 ?_
  refine ca_if_eq (tgt := 32) h dX11_call_26 (by decide) (fun c_26 => ?_) (fun c_26 => ?_)
  · exact absurd c_26 h0
  ·
    refine ca_bipush h dX11_call_29 bk_m2 ?_
    refine ca_ireturn h hR rfl dX11_call_31 ?_
    exact ⟨rfl, rfl, rfl⟩
set_option maxHeartbeats 100000 in
theorem c_X11_callU {l : Launch} {E : ch_E} {S : ch_S} {μ : ch_M} (hs : ch_Std E S) {m : Nat} (hw : k_wf (μ 0)) (hm : m < k_mc (μ 0)) {d : Int32} (hd : k_rg 1 500 d) (h0 : μ 0 3 m 4 = 0) (hcv : k_cov (μ 0) (μ 0 3 m 0) (μ 0 3 m 1) = -1) : ch_C E l yX11_call cX11_call 5 (some FieldType.int) 6 0 0 S μ [.ref (S.1 15 11 0), .int (nI m), .int d] (ch_F (some (.int ((-4)))) S (μ)) := by
  refine ch_enter rfl rfl ?_
  intro X hl0 h hG hR hnm
  have h : ch_H X E RX11 cX11_call 5 := h
  have q0 : k_ism (μ 0) (nI m) := k_ism_n hm
  have q1 : k_rg 1 500 d := hd
  have hm12 := hw.1
  have hc8 := hw.2.1
  have hm2 : m < 12 := by omega
  show ch_W X E 5 S μ 0 0 0 [(0, .ref (S.1 15 11 0)), (1, .int (nI m)), (2, .int d)] []
  refine ca_aload_nr h dX11_call_0 rfl ?_
  refine ca_iload_n h dX11_call_1 rfl ?_
  refine ca_vv h hG ml_X11_153 (c_X11_requireMobile hs q0) (ci := 11) rfl rfl rfl (hs.1 _ _ _ (by show _ ∧ _; exact ⟨by first | assumption | rfl | omega, by first | assumption | rfl | omega⟩)) rfl rfl rfl rfl ⟨Nat.le_refl _, Nat.le_refl _⟩ rfl dX11_call_2 ?_
  refine ca_iload_n h dX11_call_5 rfl ?_
  refine ca_iconst h dX11_call_6 ik_1 ?_
  refine ca_sipush h dX11_call_7 sk_500 ?_
  refine ca_sv h hG ms_X11_62 (c_X11_requireRange q1) rfl rfl rfl rfl ⟨Nat.le_refl _, Nat.le_refl _⟩ rfl dX11_call_10 ?_
  refine ca_aload_nr h dX11_call_13 rfl ?_
  refine gs_X11_19 h hs (by show _ ∧ _; exact ⟨by first | assumption | rfl | omega, by first | assumption | rfl | omega⟩) dX11_call_14 ?_
  refine ca_iload_n h dX11_call_17 rfl ?_
  refine ca_vr h hG ml_X11_143 (c_X3_mobileJ hs (by decide) hm2) (ci := 3) rfl rfl rfl (hs.1 _ _ _ (by show _ ∧ _; exact ⟨by first | assumption | rfl | omega, by first | assumption | rfl | omega⟩)) rfl rfl rfl rfl ⟨Nat.le_refl _, Nat.le_refl _⟩ rfl dX11_call_18 ?_
  refine ca_astore_n h dX11_call_21 rfl ?_
  refine ca_aload_nr h dX11_call_22 rfl ?_
  refine gi_X11_162 h (hs.1 _ _ _ (by show _ ∧ _; exact ⟨by first | assumption | rfl | omega, by first | assumption | rfl | omega⟩)) dX11_call_23 ?_
  refine ca_if_eq (tgt := 32) h dX11_call_26 (by decide) (fun c_26 => ?_) (fun c_26 => ?_)
  ·
    refine ca_aload_nr h dX11_call_32 rfl ?_
    refine gs_X11_19 h hs (by show _ ∧ _; exact ⟨by first | assumption | rfl | omega, by first | assumption | rfl | omega⟩) dX11_call_33 ?_
    refine ca_aload_nr h dX11_call_36 rfl ?_
    refine gi_X11_165 h (hs.1 _ _ _ (by show _ ∧ _; exact ⟨by first | assumption | rfl | omega, by first | assumption | rfl | omega⟩)) dX11_call_37 ?_
    refine ca_aload_nr h dX11_call_40 rfl ?_
    refine gi_X11_168 h (hs.1 _ _ _ (by show _ ∧ _; exact ⟨by first | assumption | rfl | omega, by first | assumption | rfl | omega⟩)) dX11_call_41 ?_
    refine ca_vi h hG ml_X11_130 (c_X3_coveringCell hs (by decide) hc8) (ci := 3) rfl rfl rfl (hs.1 _ _ _ (by show _ ∧ _; exact ⟨by first | assumption | rfl | omega, by first | assumption | rfl | omega⟩)) rfl rfl rfl rfl ⟨Nat.le_refl _, Nat.le_refl _⟩ rfl dX11_call_44 ?_
    refine ca_istore h dX11_call_47 rfl ?_
    refine ca_iload h dX11_call_49 rfl ?_
    refine ca_iconst h dX11_call_51 ik_m1 ?_
    refine ca_icmp_ne (tgt := 58) h dX11_call_52 (by decide) (fun c_52 => ?_) (fun c_52 => ?_)
    · exact absurd hcv c_52
    ·
      refine ca_bipush h dX11_call_55 bk_m4 ?_
      refine ca_ireturn h hR rfl dX11_call_57 ?_
      exact ⟨rfl, rfl, rfl⟩
  · exact absurd h0 c_26
set_option maxHeartbeats 100000 in
theorem c_X11_call {l : Launch} {E : ch_E} {S : ch_S} {μ : ch_M} (hs : ch_Std E S) {m : Nat} (hw : k_wf (μ 0)) (hm : m < k_mc (μ 0)) {d : Int32} (hd : k_rg 1 500 d) (h0 : μ 0 3 m 4 = 0) {s : Nat} (hs8 : s < 8) (hcv : k_cov (μ 0) (μ 0 3 m 0) (μ 0 3 m 1) = nI s) {j : Nat} (hj : j < 12) (hnx : μ 15 14 0 1 = nI j) : ch_C E l yX11_call cX11_call 5 (some FieldType.int) 6 0 0 S μ [.ref (S.1 15 11 0), .int (nI m), .int d] (ch_F (some (.int ((k_su (μ 0) m d (nI s)).1))) S (up (k_rcm μ j) 0 (k_su (μ 0) m d (nI s)).2)) := by
  refine ch_enter rfl rfl ?_
  intro X hl0 h hG hR hnm
  have h : ch_H X E RX11 cX11_call 5 := h
  have q0 : k_ism (μ 0) (nI m) := k_ism_n hm
  have q1 : k_rg 1 500 d := hd
  have hm12 := hw.1
  have hc8 := hw.2.1
  have hm2 : m < 12 := by omega
  show ch_W X E 5 S μ 0 0 0 [(0, .ref (S.1 15 11 0)), (1, .int (nI m)), (2, .int d)] []
  refine ca_aload_nr h dX11_call_0 rfl ?_
  refine ca_iload_n h dX11_call_1 rfl ?_
  refine ca_vv h hG ml_X11_153 (c_X11_requireMobile hs q0) (ci := 11) rfl rfl rfl (hs.1 _ _ _ (by show _ ∧ _; exact ⟨by first | assumption | rfl | omega, by first | assumption | rfl | omega⟩)) rfl rfl rfl rfl ⟨Nat.le_refl _, Nat.le_refl _⟩ rfl dX11_call_2 ?_
  refine ca_iload_n h dX11_call_5 rfl ?_
  refine ca_iconst h dX11_call_6 ik_1 ?_
  refine ca_sipush h dX11_call_7 sk_500 ?_
  refine ca_sv h hG ms_X11_62 (c_X11_requireRange q1) rfl rfl rfl rfl ⟨Nat.le_refl _, Nat.le_refl _⟩ rfl dX11_call_10 ?_
  refine ca_aload_nr h dX11_call_13 rfl ?_
  refine gs_X11_19 h hs (by show _ ∧ _; exact ⟨by first | assumption | rfl | omega, by first | assumption | rfl | omega⟩) dX11_call_14 ?_
  refine ca_iload_n h dX11_call_17 rfl ?_
  refine ca_vr h hG ml_X11_143 (c_X3_mobileJ hs (by decide) hm2) (ci := 3) rfl rfl rfl (hs.1 _ _ _ (by show _ ∧ _; exact ⟨by first | assumption | rfl | omega, by first | assumption | rfl | omega⟩)) rfl rfl rfl rfl ⟨Nat.le_refl _, Nat.le_refl _⟩ rfl dX11_call_18 ?_
  refine ca_astore_n h dX11_call_21 rfl ?_
  refine ca_aload_nr h dX11_call_22 rfl ?_
  refine gi_X11_162 h (hs.1 _ _ _ (by show _ ∧ _; exact ⟨by first | assumption | rfl | omega, by first | assumption | rfl | omega⟩)) dX11_call_23 ?_
  refine ca_if_eq (tgt := 32) h dX11_call_26 (by decide) (fun c_26 => ?_) (fun c_26 => ?_)
  ·
    refine ca_aload_nr h dX11_call_32 rfl ?_
    refine gs_X11_19 h hs (by show _ ∧ _; exact ⟨by first | assumption | rfl | omega, by first | assumption | rfl | omega⟩) dX11_call_33 ?_
    refine ca_aload_nr h dX11_call_36 rfl ?_
    refine gi_X11_165 h (hs.1 _ _ _ (by show _ ∧ _; exact ⟨by first | assumption | rfl | omega, by first | assumption | rfl | omega⟩)) dX11_call_37 ?_
    refine ca_aload_nr h dX11_call_40 rfl ?_
    refine gi_X11_168 h (hs.1 _ _ _ (by show _ ∧ _; exact ⟨by first | assumption | rfl | omega, by first | assumption | rfl | omega⟩)) dX11_call_41 ?_
    refine ca_vi h hG ml_X11_130 (c_X3_coveringCell hs (by decide) hc8) (ci := 3) rfl rfl rfl (hs.1 _ _ _ (by show _ ∧ _; exact ⟨by first | assumption | rfl | omega, by first | assumption | rfl | omega⟩)) rfl rfl rfl rfl ⟨Nat.le_refl _, Nat.le_refl _⟩ rfl dX11_call_44 ?_
    rw [hcv]
    refine ca_istore h dX11_call_47 rfl ?_
    refine ca_iload h dX11_call_49 rfl ?_
    refine ca_iconst h dX11_call_51 ik_m1 ?_
    refine ca_icmp_ne (tgt := 58) h dX11_call_52 (by decide) (fun c_52 => ?_) (fun c_52 => ?_)
    ·
      refine ca_aload_nr h dX11_call_58 rfl ?_
      refine gs_X11_32 h hs (by show _ ∧ _; exact ⟨by first | assumption | rfl | omega, by first | assumption | rfl | omega⟩) dX11_call_59 ?_
      refine ca_aload_nr h dX11_call_62 rfl ?_
      refine gs_X11_19 h hs (by show _ ∧ _; exact ⟨by first | assumption | rfl | omega, by first | assumption | rfl | omega⟩) dX11_call_63 ?_
      refine ca_vv h hG ml_X11_140 (c_X11_rec hs hj hnx) (ci := 1) rfl rfl rfl (hs.1 _ _ _ (by show _ ∧ _; exact ⟨by first | assumption | rfl | omega, by first | assumption | rfl | omega⟩)) rfl rfl rfl rfl ⟨Nat.le_refl _, Nat.le_refl _⟩ rfl dX11_call_66 ?_
      refine ca_aload_nr h dX11_call_69 rfl ?_
      refine gs_X11_19 h hs (by show _ ∧ _; exact ⟨by first | assumption | rfl | omega, by first | assumption | rfl | omega⟩) dX11_call_70 ?_
      refine ca_aload_nr h dX11_call_73 rfl ?_
      refine ca_iload_n h dX11_call_74 rfl ?_
      refine ca_iload h dX11_call_75 rfl ?_
      refine ca_vi h hG ml_X11_171 (c_X3_setUpCall hs (by decide) (by rw [k_rcm_0]; omega) (by rw [k_rcm_0]; omega) (by omega)) (ci := 3) rfl rfl rfl (hs.1 _ _ _ (by show _ ∧ _; exact ⟨by first | assumption | rfl | omega, by first | assumption | rfl | omega⟩)) rfl rfl rfl rfl ⟨Nat.le_refl _, Nat.le_refl _⟩ rfl dX11_call_77 ?_
      refine ca_ireturn h hR rfl dX11_call_80 ?_
      exact ⟨by rw [k_rcm_0], rfl, by rw [k_rcm_0]⟩
    · exact absurd c_52 (fun z => by have := nI_pos (n := s) (by omega); rw [z] at this; exact this (by decide))
  · exact absurd h0 c_26
set_option maxHeartbeats 100000 in
theorem c_X11_hangUpI {l : Launch} {E : ch_E} {S : ch_S} {μ : ch_M} (hs : ch_Std E S) {m : Nat} (hm12 : k_mc (μ 0) ≤ 12) (hm : m < k_mc (μ 0)) (h0 : μ 0 3 m 4 = 0) : ch_C E l yX11_hangUp cX11_hangUp 4 (some FieldType.int) 5 0 0 S μ [.ref (S.1 15 11 0), .int (nI m)] (ch_F (some (.int ((-2)))) S (μ)) := by
  refine ch_enter rfl rfl ?_
  intro X hl0 h hG hR hnm
  have h : ch_H X E RX11 cX11_hangUp 4 := h
  have q0 : k_ism (μ 0) (nI m) := k_ism_n hm
  have hm2 : m < 12 := by omega
  show ch_W X E 4 S μ 0 0 0 [(0, .ref (S.1 15 11 0)), (1, .int (nI m))] []
  refine ca_aload_nr h dX11_hangUp_0 rfl ?_
  refine ca_iload_n h dX11_hangUp_1 rfl ?_
  refine ca_vv h hG ml_X11_153 (c_X11_requireMobile hs q0) (ci := 11) rfl rfl rfl (hs.1 _ _ _ (by show _ ∧ _; exact ⟨by first | assumption | rfl | omega, by first | assumption | rfl | omega⟩)) rfl rfl rfl rfl ⟨Nat.le_refl _, Nat.le_refl _⟩ rfl dX11_hangUp_2 ?_
  refine ca_aload_nr h dX11_hangUp_5 rfl ?_
  refine gs_X11_19 h hs (by show _ ∧ _; exact ⟨by first | assumption | rfl | omega, by first | assumption | rfl | omega⟩) dX11_hangUp_6 ?_
  refine ca_iload_n h dX11_hangUp_9 rfl ?_
  refine ca_vr h hG ml_X11_143 (c_X3_mobileJ hs (by decide) hm2) (ci := 3) rfl rfl rfl (hs.1 _ _ _ (by show _ ∧ _; exact ⟨by first | assumption | rfl | omega, by first | assumption | rfl | omega⟩)) rfl rfl rfl rfl ⟨Nat.le_refl _, Nat.le_refl _⟩ rfl dX11_hangUp_10 ?_
  refine ca_astore_n h dX11_hangUp_13 rfl ?_
  refine ca_aload_nr h dX11_hangUp_14 rfl ?_
  refine gi_X11_162 h (hs.1 _ _ _ (by show _ ∧ _; exact ⟨by first | assumption | rfl | omega, by first | assumption | rfl | omega⟩)) dX11_hangUp_15 ?_
  refine ca_istore_n h dX11_hangUp_18 rfl ?_
  refine ca_iload_n h dX11_hangUp_19 rfl ?_
  refine ca_if_ne (tgt := 26) h dX11_hangUp_20 (by decide) (fun c_20 => ?_) (fun c_20 => ?_)
  · exact absurd h0 c_20
  ·
    refine ca_bipush h dX11_hangUp_23 bk_m2 ?_
    refine ca_ireturn h hR rfl dX11_hangUp_25 ?_
    exact ⟨rfl, rfl, rfl⟩
set_option maxHeartbeats 100000 in
theorem c_X11_hangUp {l : Launch} {E : ch_E} {S : ch_S} {μ : ch_M} (hs : ch_Std E S) {m : Nat} (hm12 : k_mc (μ 0) ≤ 12) (hm : m < k_mc (μ 0)) (h0 : ¬ μ 0 3 m 4 = 0) {j : Nat} (hj : j < 12) (hnx : μ 15 14 0 1 = nI j) : ch_C E l yX11_hangUp cX11_hangUp 4 (some FieldType.int) 5 0 0 S μ [.ref (S.1 15 11 0), .int (nI m)] (ch_F (some (.int (μ 0 3 m 4))) S (up (k_rcm μ j) 0 (k_idle (μ 0) m))) := by
  refine ch_enter rfl rfl ?_
  intro X hl0 h hG hR hnm
  have h : ch_H X E RX11 cX11_hangUp 4 := h
  have q0 : k_ism (μ 0) (nI m) := k_ism_n hm
  have hm2 : m < 12 := by omega
  show ch_W X E 4 S μ 0 0 0 [(0, .ref (S.1 15 11 0)), (1, .int (nI m))] []
  refine ca_aload_nr h dX11_hangUp_0 rfl ?_
  refine ca_iload_n h dX11_hangUp_1 rfl ?_
  refine ca_vv h hG ml_X11_153 (c_X11_requireMobile hs q0) (ci := 11) rfl rfl rfl (hs.1 _ _ _ (by show _ ∧ _; exact ⟨by first | assumption | rfl | omega, by first | assumption | rfl | omega⟩)) rfl rfl rfl rfl ⟨Nat.le_refl _, Nat.le_refl _⟩ rfl dX11_hangUp_2 ?_
  refine ca_aload_nr h dX11_hangUp_5 rfl ?_
  refine gs_X11_19 h hs (by show _ ∧ _; exact ⟨by first | assumption | rfl | omega, by first | assumption | rfl | omega⟩) dX11_hangUp_6 ?_
  refine ca_iload_n h dX11_hangUp_9 rfl ?_
  refine ca_vr h hG ml_X11_143 (c_X3_mobileJ hs (by decide) hm2) (ci := 3) rfl rfl rfl (hs.1 _ _ _ (by show _ ∧ _; exact ⟨by first | assumption | rfl | omega, by first | assumption | rfl | omega⟩)) rfl rfl rfl rfl ⟨Nat.le_refl _, Nat.le_refl _⟩ rfl dX11_hangUp_10 ?_
  refine ca_astore_n h dX11_hangUp_13 rfl ?_
  refine ca_aload_nr h dX11_hangUp_14 rfl ?_
  refine gi_X11_162 h (hs.1 _ _ _ (by show _ ∧ _; exact ⟨by first | assumption | rfl | omega, by first | assumption | rfl | omega⟩)) dX11_hangUp_15 ?_
  refine ca_istore_n h dX11_hangUp_18 rfl ?_
  refine ca_iload_n h dX11_hangUp_19 rfl ?_
  refine ca_if_ne (tgt := 26) h dX11_hangUp_20 (by decide) (fun c_20 => ?_) (fun c_20 => ?_)
  ·
    refine ca_aload_nr h dX11_hangUp_26 rfl ?_
    refine gs_X11_32 h hs (by show _ ∧ _; exact ⟨by first | assumption | rfl | omega, by first | assumption | rfl | omega⟩) dX11_hangUp_27 ?_
    refine ca_aload_nr h dX11_hangUp_30 rfl ?_
    refine gs_X11_19 h hs (by show _ ∧ _; exact ⟨by first | assumption | rfl | omega, by first | assumption | rfl | omega⟩) dX11_hangUp_31 ?_
    refine ca_vv h hG ml_X11_140 (c_X11_rec hs hj hnx) (ci := 1) rfl rfl rfl (hs.1 _ _ _ (by show _ ∧ _; exact ⟨by first | assumption | rfl | omega, by first | assumption | rfl | omega⟩)) rfl rfl rfl rfl ⟨Nat.le_refl _, Nat.le_refl _⟩ rfl dX11_hangUp_34 ?_
    refine ca_aload_nr h dX11_hangUp_37 rfl ?_
    refine ca_vv h hG ml_X11_175 (c_X2_becomeIdle hs (by decide) (by omega)) (ci := 2) rfl rfl rfl (hs.1 _ _ _ (by show _ ∧ _; exact ⟨by first | assumption | rfl | omega, by first | assumption | rfl | omega⟩)) rfl rfl rfl rfl ⟨Nat.le_refl _, Nat.le_refl _⟩ rfl dX11_hangUp_38 ?_
    refine ca_iload_n h dX11_hangUp_41 rfl ?_
    refine ca_ireturn h hR rfl dX11_hangUp_42 ?_
    exact ⟨rfl, rfl, by rw [k_rcm_0]⟩
  · exact absurd c_20 h0
set_option maxHeartbeats 100000 in
theorem c_X11_setHysteresisM {l : Launch} {E : ch_E} {S : ch_S} {μ : ch_M} (hs : ch_Std E S) {a b : Nat} (hc8 : k_cc (μ 0) ≤ 8) (ha : a < k_cc (μ 0)) (hb : b < k_cc (μ 0)) {v : Int32} (hv : k_rg 0 30 v) (hex : μ 0 2 (8 * a + b) 0 = 0) : ch_C E l yX11_setHysteresis cX11_setHysteresis 6 (some FieldType.int) 5 0 0 S μ [.ref (S.1 15 11 0), .int (nI a), .int (nI b), .int v] (ch_F (some (.int ((-2)))) S (μ)) := by
  refine ch_enter rfl rfl ?_
  intro X hl0 h hG hR hnm
  have h : ch_H X E RX11 cX11_setHysteresis 6 := h
  have q0 : k_isc (μ 0) (nI a) := k_isc_n ha
  have q1 : k_isc (μ 0) (nI b) := k_isc_n hb
  have q2 : k_rg 0 30 v := hv
  have ha8 : a < 8 := by omega
  have hb8 : b < 8 := by omega
  show ch_W X E 6 S μ 0 0 0 [(0, .ref (S.1 15 11 0)), (1, .int (nI a)), (2, .int (nI b)), (3, .int v)] []
  refine ca_aload_nr h dX11_setHysteresis_0 rfl ?_
  refine ca_iload_n h dX11_setHysteresis_1 rfl ?_
  refine ca_vv h hG ml_X11_105 (c_X11_requireCell hs q0) (ci := 11) rfl rfl rfl (hs.1 _ _ _ (by show _ ∧ _; exact ⟨by first | assumption | rfl | omega, by first | assumption | rfl | omega⟩)) rfl rfl rfl rfl ⟨Nat.le_refl _, Nat.le_refl _⟩ rfl dX11_setHysteresis_2 ?_
  refine ca_aload_nr h dX11_setHysteresis_5 rfl ?_
  refine ca_iload_n h dX11_setHysteresis_6 rfl ?_
  refine ca_vv h hG ml_X11_105 (c_X11_requireCell hs q1) (ci := 11) rfl rfl rfl (hs.1 _ _ _ (by show _ ∧ _; exact ⟨by first | assumption | rfl | omega, by first | assumption | rfl | omega⟩)) rfl rfl rfl rfl ⟨Nat.le_refl _, Nat.le_refl _⟩ rfl dX11_setHysteresis_7 ?_
  refine ca_iload_n h dX11_setHysteresis_10 rfl ?_
  refine ca_iconst h dX11_setHysteresis_11 ik_0 ?_
  refine ca_bipush h dX11_setHysteresis_12 bk_30 ?_
  refine ca_sv h hG ms_X11_62 (c_X11_requireRange q2) rfl rfl rfl rfl ⟨Nat.le_refl _, Nat.le_refl _⟩ rfl dX11_setHysteresis_14 ?_
  refine ca_aload_nr h dX11_setHysteresis_17 rfl ?_
  refine gs_X11_19 h hs (by show _ ∧ _; exact ⟨by first | assumption | rfl | omega, by first | assumption | rfl | omega⟩) dX11_setHysteresis_18 ?_
  refine ca_iload_n h dX11_setHysteresis_21 rfl ?_
  refine ca_iload_n h dX11_setHysteresis_22 rfl ?_
  refine ca_vr h hG ml_X11_108 (c_X3_relJ hs (by decide) ha8 hb8) (ci := 3) rfl rfl rfl (hs.1 _ _ _ (by show _ ∧ _; exact ⟨by first | assumption | rfl | omega, by first | assumption | rfl | omega⟩)) rfl rfl rfl rfl ⟨Nat.le_refl _, Nat.le_refl _⟩ rfl dX11_setHysteresis_23 ?_
  refine ca_astore h dX11_setHysteresis_26 rfl ?_
  refine ca_aload h dX11_setHysteresis_28 rfl ?_
  refine gi_X11_112 h (hs.1 _ _ _ (by show _ ∧ _; exact ⟨by first | assumption | rfl | omega, by first | assumption | rfl | omega⟩)) dX11_setHysteresis_30 ?_
  refine ca_if_ne (tgt := 39) h dX11_setHysteresis_33 (by decide) (fun c_33 => ?_) (fun c_33 => ?_)
  · exact absurd hex c_33
  ·
    refine ca_bipush h dX11_setHysteresis_36 bk_m2 ?_
    refine ca_ireturn h hR rfl dX11_setHysteresis_38 ?_
    exact ⟨rfl, rfl, rfl⟩
set_option maxHeartbeats 100000 in
theorem c_X11_setHysteresis {l : Launch} {E : ch_E} {S : ch_S} {μ : ch_M} (hs : ch_Std E S) {a b : Nat} (hc8 : k_cc (μ 0) ≤ 8) (ha : a < k_cc (μ 0)) (hb : b < k_cc (μ 0)) {v : Int32} (hv : k_rg 0 30 v) (hex : ¬ μ 0 2 (8 * a + b) 0 = 0) {j : Nat} (hj : j < 12) (hnx : μ 15 14 0 1 = nI j) : ch_C E l yX11_setHysteresis cX11_setHysteresis 6 (some FieldType.int) 5 0 0 S μ [.ref (S.1 15 11 0), .int (nI a), .int (nI b), .int v] (ch_F (some (.int (μ 0 2 (8 * a + b) 1))) S (up (k_rcm μ j) 0 (nw (μ 0) 2 (8 * a + b) 1 v))) := by
  refine ch_enter rfl rfl ?_
  intro X hl0 h hG hR hnm
  have h : ch_H X E RX11 cX11_setHysteresis 6 := h
  have q0 : k_isc (μ 0) (nI a) := k_isc_n ha
  have q1 : k_isc (μ 0) (nI b) := k_isc_n hb
  have q2 : k_rg 0 30 v := hv
  have ha8 : a < 8 := by omega
  have hb8 : b < 8 := by omega
  show ch_W X E 6 S μ 0 0 0 [(0, .ref (S.1 15 11 0)), (1, .int (nI a)), (2, .int (nI b)), (3, .int v)] []
  refine ca_aload_nr h dX11_setHysteresis_0 rfl ?_
  refine ca_iload_n h dX11_setHysteresis_1 rfl ?_
  refine ca_vv h hG ml_X11_105 (c_X11_requireCell hs q0) (ci := 11) rfl rfl rfl (hs.1 _ _ _ (by show _ ∧ _; exact ⟨by first | assumption | rfl | omega, by first | assumption | rfl | omega⟩)) rfl rfl rfl rfl ⟨Nat.le_refl _, Nat.le_refl _⟩ rfl dX11_setHysteresis_2 ?_
  refine ca_aload_nr h dX11_setHysteresis_5 rfl ?_
  refine ca_iload_n h dX11_setHysteresis_6 rfl ?_
  refine ca_vv h hG ml_X11_105 (c_X11_requireCell hs q1) (ci := 11) rfl rfl rfl (hs.1 _ _ _ (by show _ ∧ _; exact ⟨by first | assumption | rfl | omega, by first | assumption | rfl | omega⟩)) rfl rfl rfl rfl ⟨Nat.le_refl _, Nat.le_refl _⟩ rfl dX11_setHysteresis_7 ?_
  refine ca_iload_n h dX11_setHysteresis_10 rfl ?_
  refine ca_iconst h dX11_setHysteresis_11 ik_0 ?_
  refine ca_bipush h dX11_setHysteresis_12 bk_30 ?_
  refine ca_sv h hG ms_X11_62 (c_X11_requireRange q2) rfl rfl rfl rfl ⟨Nat.le_refl _, Nat.le_refl _⟩ rfl dX11_setHysteresis_14 ?_
  refine ca_aload_nr h dX11_setHysteresis_17 rfl ?_
  refine gs_X11_19 h hs (by show _ ∧ _; exact ⟨by first | assumption | rfl | omega, by first | assumption | rfl | omega⟩) dX11_setHysteresis_18 ?_
  refine ca_iload_n h dX11_setHysteresis_21 rfl ?_
  refine ca_iload_n h dX11_setHysteresis_22 rfl ?_
  refine ca_vr h hG ml_X11_108 (c_X3_relJ hs (by decide) ha8 hb8) (ci := 3) rfl rfl rfl (hs.1 _ _ _ (by show _ ∧ _; exact ⟨by first | assumption | rfl | omega, by first | assumption | rfl | omega⟩)) rfl rfl rfl rfl ⟨Nat.le_refl _, Nat.le_refl _⟩ rfl dX11_setHysteresis_23 ?_
  refine ca_astore h dX11_setHysteresis_26 rfl ?_
  refine ca_aload h dX11_setHysteresis_28 rfl ?_
  refine gi_X11_112 h (hs.1 _ _ _ (by show _ ∧ _; exact ⟨by first | assumption | rfl | omega, by first | assumption | rfl | omega⟩)) dX11_setHysteresis_30 ?_
  refine ca_if_ne (tgt := 39) h dX11_setHysteresis_33 (by decide) (fun c_33 => ?_) (fun c_33 => ?_)
  ·
    refine ca_aload_nr h dX11_setHysteresis_39 rfl ?_
    refine gs_X11_32 h hs (by show _ ∧ _; exact ⟨by first | assumption | rfl | omega, by first | assumption | rfl | omega⟩) dX11_setHysteresis_40 ?_
    refine ca_aload_nr h dX11_setHysteresis_43 rfl ?_
    refine gs_X11_19 h hs (by show _ ∧ _; exact ⟨by first | assumption | rfl | omega, by first | assumption | rfl | omega⟩) dX11_setHysteresis_44 ?_
    refine ca_vv h hG ml_X11_140 (c_X11_rec hs hj hnx) (ci := 1) rfl rfl rfl (hs.1 _ _ _ (by show _ ∧ _; exact ⟨by first | assumption | rfl | omega, by first | assumption | rfl | omega⟩)) rfl rfl rfl rfl ⟨Nat.le_refl _, Nat.le_refl _⟩ rfl dX11_setHysteresis_47 ?_
    refine ca_aload h dX11_setHysteresis_50 rfl ?_
    refine gi_X11_117 h (hs.1 _ _ _ (by show _ ∧ _; exact ⟨by first | assumption | rfl | omega, by first | assumption | rfl | omega⟩)) dX11_setHysteresis_52 ?_
    refine ca_istore h dX11_setHysteresis_55 rfl ?_
    refine ca_aload h dX11_setHysteresis_57 rfl ?_
    refine ca_iload_n h dX11_setHysteresis_59 rfl ?_
    refine pi_X11_117 h (hs.1 _ _ _ (by show _ ∧ _; exact ⟨by first | assumption | rfl | omega, by first | assumption | rfl | omega⟩)) dX11_setHysteresis_60 ?_
    refine ca_iload h dX11_setHysteresis_63 rfl ?_
    refine ca_ireturn h hR rfl dX11_setHysteresis_65 ?_
    exact ⟨by rw [k_rcm_0], rfl, by simp only [ch_st_nw, k_rcm_0]⟩
  · exact absurd c_33 hex
set_option maxHeartbeats 100000 in
theorem c_X11_run {l : Launch} {E : ch_E} {S : ch_S} {μ : ch_M} (hs : ch_Std E S) {T : Nat} (hw : k_wf (μ 0)) (hT : T ≤ 60) (hx : k_tk9 (μ 0) 60 (nI T)) {j : Nat} (hj : j < 12) (hnx : μ 15 14 0 1 = nI j) : ch_C E l yX11_run cX11_run 3 (some FieldType.int) 7 0 0 S μ [.ref (S.1 15 11 0), .int (nI T)] (ch_F (some (.int ((k_adv T (μ 0, k_rec (μ 15))).1 7 0 0 - μ 0 7 0 0))) S (up (up (k_rcm μ j) 0 (k_adv T (μ 0, k_rec (μ 15))).1) 15 (k_adv T (μ 0, k_rec (μ 15))).2)) := by
  refine ch_enter rfl rfl ?_
  intro X hl0 h hG hR hnm
  have h : ch_H X E RX11 cX11_run 3 := h
  have q0 : k_tk9 (μ 0) 60 (nI T) := hx
  show ch_W X E 3 S μ 0 0 0 [(0, .ref (S.1 15 11 0)), (1, .int (nI T))] []
  refine ca_aload_nr h dX11_run_0 rfl ?_
  refine ca_iload_n h dX11_run_1 rfl ?_
  refine ca_bipush h dX11_run_2 bk_60 ?_
  refine ca_vv h hG ml_X11_178 (c_X11_requireTicks hs q0) (ci := 11) rfl rfl rfl (hs.1 _ _ _ (by show _ ∧ _; exact ⟨by first | assumption | rfl | omega, by first | assumption | rfl | omega⟩)) rfl rfl rfl rfl ⟨Nat.le_refl _, Nat.le_refl _⟩ rfl dX11_run_4 ?_
  refine ca_aload_nr h dX11_run_7 rfl ?_
  refine gs_X11_32 h hs (by show _ ∧ _; exact ⟨by first | assumption | rfl | omega, by first | assumption | rfl | omega⟩) dX11_run_8 ?_
  refine ca_aload_nr h dX11_run_11 rfl ?_
  refine gs_X11_19 h hs (by show _ ∧ _; exact ⟨by first | assumption | rfl | omega, by first | assumption | rfl | omega⟩) dX11_run_12 ?_
  refine ca_vv h hG ml_X11_140 (c_X11_rec hs hj hnx) (ci := 1) rfl rfl rfl (hs.1 _ _ _ (by show _ ∧ _; exact ⟨by first | assumption | rfl | omega, by first | assumption | rfl | omega⟩)) rfl rfl rfl rfl ⟨Nat.le_refl _, Nat.le_refl _⟩ rfl dX11_run_15 ?_
  refine ca_aload_nr h dX11_run_18 rfl ?_
  refine gs_X11_19 h hs (by show _ ∧ _; exact ⟨by first | assumption | rfl | omega, by first | assumption | rfl | omega⟩) dX11_run_19 ?_
  refine ca_iconst h dX11_run_22 ik_0 ?_
  refine ca_vi h hG ml_X11_182 (c_X3_totalOf hs (by decide)) (ci := 3) rfl rfl rfl (hs.1 _ _ _ (by show _ ∧ _; exact ⟨by first | assumption | rfl | omega, by first | assumption | rfl | omega⟩)) rfl rfl rfl rfl ⟨Nat.le_refl _, Nat.le_refl _⟩ rfl dX11_run_23 ?_
  rw [k_rcm_0, k_tot0]
  refine ca_istore_n h dX11_run_26 rfl ?_
  refine ca_aload_nr h dX11_run_27 rfl ?_
  refine gs_X11_39 h hs (by show _ ∧ _; exact ⟨by first | assumption | rfl | omega, by first | assumption | rfl | omega⟩) dX11_run_28 ?_
  refine ca_aload_nr h dX11_run_31 rfl ?_
  refine gs_X11_19 h hs (by show _ ∧ _; exact ⟨by first | assumption | rfl | omega, by first | assumption | rfl | omega⟩) dX11_run_32 ?_
  refine ca_iload_n h dX11_run_35 rfl ?_
  refine ca_vv h hG ml_X11_186 (c_X8_advance hs (by decide) (by rw [k_rcm_0]; exact hw)) (ci := 8) rfl rfl rfl (hs.1 _ _ _ (by show _ ∧ _; exact ⟨by first | assumption | rfl | omega, by first | assumption | rfl | omega⟩)) rfl rfl rfl rfl ⟨Nat.le_refl _, Nat.le_refl _⟩ rfl dX11_run_36 ?_
  rw [k_rcm_0, k_rcm_15, nI_clamp (show T < 2 ^ 31 by omega)]
  refine ca_aload_nr h dX11_run_39 rfl ?_
  refine gs_X11_19 h hs (by show _ ∧ _; exact ⟨by first | assumption | rfl | omega, by first | assumption | rfl | omega⟩) dX11_run_40 ?_
  refine ca_iconst h dX11_run_43 ik_0 ?_
  refine ca_vi h hG ml_X11_182 (c_X3_totalOf hs (by decide)) (ci := 3) rfl rfl rfl (hs.1 _ _ _ (by show _ ∧ _; exact ⟨by first | assumption | rfl | omega, by first | assumption | rfl | omega⟩)) rfl rfl rfl rfl ⟨Nat.le_refl _, Nat.le_refl _⟩ rfl dX11_run_44 ?_
  rw [up_n (by decide), up_s, k_tot0]
  refine ca_iload_n h dX11_run_47 rfl ?_
  refine ca_isub h dX11_run_48 ?_
  refine ca_ireturn h hR rfl dX11_run_49 ?_
  exact ⟨rfl, rfl, rfl⟩
set_option maxHeartbeats 100000 in
theorem c_X11_forecastCell {l : Launch} {E : ch_E} {S : ch_S} {μ : ch_M} (hs : ch_Std E S) {m T : Nat} (hw : k_wf (μ 0)) (hw1 : k_wf (k_cp (μ 1) (μ 0))) (hm : m < k_mc (μ 0)) (hT : T ≤ 60) (hx : k_tk9 (μ 0) 60 (nI T)) : ch_C E l yX11_forecastCell cX11_forecastCell 3 (some FieldType.int) 7 0 0 S μ [.ref (S.1 15 11 0), .int (nI m), .int (nI T)] (ch_F (some (.int ((k_adv T (k_cp (μ 1) (μ 0), μ 15)).1 3 m 5))) S (up (up μ 1 (k_adv T (k_cp (μ 1) (μ 0), μ 15)).1) 15 (k_adv T (k_cp (μ 1) (μ 0), μ 15)).2)) := by
  refine ch_enter rfl rfl ?_
  intro X hl0 h hG hR hnm
  have h : ch_H X E RX11 cX11_forecastCell 3 := h
  have q0 : k_ism (μ 0) (nI m) := k_ism_n hm
  have q1 : k_tk9 (μ 0) 60 (nI T) := hx
  have hm12 := hw.1
  have hc8 := hw.2.1
  have hm2 : m < 12 := by omega
  show ch_W X E 3 S μ 0 0 0 [(0, .ref (S.1 15 11 0)), (1, .int (nI m)), (2, .int (nI T))] []
  refine ca_aload_nr h dX11_forecastCell_0 rfl ?_
  refine ca_iload_n h dX11_forecastCell_1 rfl ?_
  refine ca_vv h hG ml_X11_153 (c_X11_requireMobile hs q0) (ci := 11) rfl rfl rfl (hs.1 _ _ _ (by show _ ∧ _; exact ⟨by first | assumption | rfl | omega, by first | assumption | rfl | omega⟩)) rfl rfl rfl rfl ⟨Nat.le_refl _, Nat.le_refl _⟩ rfl dX11_forecastCell_2 ?_
  refine ca_aload_nr h dX11_forecastCell_5 rfl ?_
  refine ca_iload_n h dX11_forecastCell_6 rfl ?_
  refine ca_bipush h dX11_forecastCell_7 bk_60 ?_
  refine ca_vv h hG ml_X11_178 (c_X11_requireTicks hs q1) (ci := 11) rfl rfl rfl (hs.1 _ _ _ (by show _ ∧ _; exact ⟨by first | assumption | rfl | omega, by first | assumption | rfl | omega⟩)) rfl rfl rfl rfl ⟨Nat.le_refl _, Nat.le_refl _⟩ rfl dX11_forecastCell_9 ?_
  refine ca_aload_nr h dX11_forecastCell_12 rfl ?_
  refine gs_X11_23 h hs (by show _ ∧ _; exact ⟨by first | assumption | rfl | omega, by first | assumption | rfl | omega⟩) dX11_forecastCell_13 ?_
  refine ca_aload_nr h dX11_forecastCell_16 rfl ?_
  refine gs_X11_19 h hs (by show _ ∧ _; exact ⟨by first | assumption | rfl | omega, by first | assumption | rfl | omega⟩) dX11_forecastCell_17 ?_
  refine ca_vv h hG ml_X11_83 (c_X3_copyFrom hs (by decide) (by decide) (by decide)) (ci := 3) rfl rfl rfl (hs.1 _ _ _ (by show _ ∧ _; exact ⟨by first | assumption | rfl | omega, by first | assumption | rfl | omega⟩)) rfl rfl rfl rfl ⟨Nat.le_refl _, Nat.le_refl _⟩ rfl dX11_forecastCell_20 ?_
  refine ca_aload_nr h dX11_forecastCell_23 rfl ?_
  refine gs_X11_39 h hs (by show _ ∧ _; exact ⟨by first | assumption | rfl | omega, by first | assumption | rfl | omega⟩) dX11_forecastCell_24 ?_
  refine ca_aload_nr h dX11_forecastCell_27 rfl ?_
  refine gs_X11_23 h hs (by show _ ∧ _; exact ⟨by first | assumption | rfl | omega, by first | assumption | rfl | omega⟩) dX11_forecastCell_28 ?_
  refine ca_iload_n h dX11_forecastCell_31 rfl ?_
  refine ca_vv h hG ml_X11_186 (c_X8_advance hs (by decide) (by rw [up_s]; exact hw1)) (ci := 8) rfl rfl rfl (hs.1 _ _ _ (by show _ ∧ _; exact ⟨by first | assumption | rfl | omega, by first | assumption | rfl | omega⟩)) rfl rfl rfl rfl ⟨Nat.le_refl _, Nat.le_refl _⟩ rfl dX11_forecastCell_32 ?_
  rw [up_s, up_n (show 15 ≠ 1 by decide), up_up, nI_clamp (show T < 2 ^ 31 by omega)]
  refine ca_aload_nr h dX11_forecastCell_35 rfl ?_
  refine gs_X11_23 h hs (by show _ ∧ _; exact ⟨by first | assumption | rfl | omega, by first | assumption | rfl | omega⟩) dX11_forecastCell_36 ?_
  refine ca_iload_n h dX11_forecastCell_39 rfl ?_
  refine ca_vr h hG ml_X11_143 (c_X3_mobileJ hs (by decide) hm2) (ci := 3) rfl rfl rfl (hs.1 _ _ _ (by show _ ∧ _; exact ⟨by first | assumption | rfl | omega, by first | assumption | rfl | omega⟩)) rfl rfl rfl rfl ⟨Nat.le_refl _, Nat.le_refl _⟩ rfl dX11_forecastCell_40 ?_
  refine gi_X11_190 h (hs.1 _ _ _ (by show _ ∧ _; exact ⟨by first | assumption | rfl | omega, by first | assumption | rfl | omega⟩)) dX11_forecastCell_43 ?_
  refine ca_ireturn h hR rfl dX11_forecastCell_46 ?_
  exact ⟨by rw [up_n (by decide), up_s], rfl, rfl⟩
set_option maxHeartbeats 100000 in
theorem c_X11_bestHysteresisM {l : Launch} {E : ch_E} {S : ch_S} {μ : ch_M} (hs : ch_Std E S) {a b : Nat} (hc8 : k_cc (μ 0) ≤ 8) (ha : a < k_cc (μ 0)) (hb : b < k_cc (μ 0)) {T : Nat} (hT : T ≤ 30) (hx : k_tk9 (μ 0) 30 (nI T)) (hex : μ 0 2 (8 * a + b) 0 = 0) : ch_C E l yX11_bestHysteresis cX11_bestHysteresis 10 (some FieldType.int) 7 0 0 S μ [.ref (S.1 15 11 0), .int (nI a), .int (nI b), .int (nI T)] (ch_F (some (.int ((-2)))) S (μ)) := by
  refine ch_enter rfl rfl ?_
  intro X hl0 h hG hR hnm
  have h : ch_H X E RX11 cX11_bestHysteresis 10 := h
  have q0 : k_isc (μ 0) (nI a) := k_isc_n ha
  have q1 : k_isc (μ 0) (nI b) := k_isc_n hb
  have q2 : k_tk9 (μ 0) 30 (nI T) := hx
  have ha8 : a < 8 := by omega
  have hb8 : b < 8 := by omega
  show ch_W X E 10 S μ 0 0 0 [(0, .ref (S.1 15 11 0)), (1, .int (nI a)), (2, .int (nI b)), (3, .int (nI T))] []
  refine ca_aload_nr h dX11_bestHysteresis_0 rfl ?_
  refine ca_iload_n h dX11_bestHysteresis_1 rfl ?_
  refine ca_vv h hG ml_X11_105 (c_X11_requireCell hs q0) (ci := 11) rfl rfl rfl (hs.1 _ _ _ (by show _ ∧ _; exact ⟨by first | assumption | rfl | omega, by first | assumption | rfl | omega⟩)) rfl rfl rfl rfl ⟨Nat.le_refl _, Nat.le_refl _⟩ rfl dX11_bestHysteresis_2 ?_
  refine ca_aload_nr h dX11_bestHysteresis_5 rfl ?_
  refine ca_iload_n h dX11_bestHysteresis_6 rfl ?_
  refine ca_vv h hG ml_X11_105 (c_X11_requireCell hs q1) (ci := 11) rfl rfl rfl (hs.1 _ _ _ (by show _ ∧ _; exact ⟨by first | assumption | rfl | omega, by first | assumption | rfl | omega⟩)) rfl rfl rfl rfl ⟨Nat.le_refl _, Nat.le_refl _⟩ rfl dX11_bestHysteresis_7 ?_
  refine ca_aload_nr h dX11_bestHysteresis_10 rfl ?_
  refine ca_iload_n h dX11_bestHysteresis_11 rfl ?_
  refine ca_bipush h dX11_bestHysteresis_12 bk_30 ?_
  refine ca_vv h hG ml_X11_178 (c_X11_requireTicks hs q2) (ci := 11) rfl rfl rfl (hs.1 _ _ _ (by show _ ∧ _; exact ⟨by first | assumption | rfl | omega, by first | assumption | rfl | omega⟩)) rfl rfl rfl rfl ⟨Nat.le_refl _, Nat.le_refl _⟩ rfl dX11_bestHysteresis_14 ?_
  refine ca_aload_nr h dX11_bestHysteresis_17 rfl ?_
  refine gs_X11_19 h hs (by show _ ∧ _; exact ⟨by first | assumption | rfl | omega, by first | assumption | rfl | omega⟩) dX11_bestHysteresis_18 ?_
  refine ca_iload_n h dX11_bestHysteresis_21 rfl ?_
  refine ca_iload_n h dX11_bestHysteresis_22 rfl ?_
  refine ca_vr h hG ml_X11_108 (c_X3_relJ hs (by decide) ha8 hb8) (ci := 3) rfl rfl rfl (hs.1 _ _ _ (by show _ ∧ _; exact ⟨by first | assumption | rfl | omega, by first | assumption | rfl | omega⟩)) rfl rfl rfl rfl ⟨Nat.le_refl _, Nat.le_refl _⟩ rfl dX11_bestHysteresis_23 ?_
  refine gi_X11_112 h (hs.1 _ _ _ (by show _ ∧ _; exact ⟨by first | assumption | rfl | omega, by first | assumption | rfl | omega⟩)) dX11_bestHysteresis_26 ?_
  refine ca_if_ne (tgt := 35) h dX11_bestHysteresis_29 (by decide) (fun c_29 => ?_) (fun c_29 => ?_)
  · exact absurd hex c_29
  ·
    refine ca_bipush h dX11_bestHysteresis_32 bk_m2 ?_
    refine ca_ireturn h hR rfl dX11_bestHysteresis_34 ?_
    exact ⟨rfl, rfl, rfl⟩
set_option maxHeartbeats 400000 in
theorem c_X11_bestHysteresis {l : Launch} {E : ch_E} {S : ch_S} {μ : ch_M} (hs : ch_Std E S) {a b : Nat} (hc8 : k_cc (μ 0) ≤ 8) (ha : a < k_cc (μ 0)) (hb : b < k_cc (μ 0)) {T : Nat} (hT : T ≤ 30) (hx : k_tk9 (μ 0) 30 (nI T)) (hw1 : ∀ s v, v < 31 → k_c8 s → k_wf (nw (k_cp s (μ 0)) 2 (8 * a + b) 1 (nI v))) (hw0 : k_c8 (μ 1)) (hex : ¬ μ 0 2 (8 * a + b) 0 = 0) : ch_C E l yX11_bestHysteresis cX11_bestHysteresis 10 (some FieldType.int) 7 0 0 S μ [.ref (S.1 15 11 0), .int (nI a), .int (nI b), .int (nI T)] (ch_F (some (.int ((r_bh (k_bhD (μ 0) T a b (μ 1, μ 15)) (k_bhH (μ 0) T a b (μ 1, μ 15)) 31).1))) S (up (up μ 1 (k_bhI (μ 0) T a b (μ 1, μ 15) 31).1) 15 (k_bhI (μ 0) T a b (μ 1, μ 15) 31).2)) := by
  refine ch_enter rfl rfl ?_
  intro X hl0 h hG hR hnm
  have h : ch_H X E RX11 cX11_bestHysteresis 10 := h
  have q0 : k_isc (μ 0) (nI a) := k_isc_n ha
  have q1 : k_isc (μ 0) (nI b) := k_isc_n hb
  have q2 : k_tk9 (μ 0) 30 (nI T) := hx
  have ha8 : a < 8 := by omega
  have hb8 : b < 8 := by omega
  obtain ⟨D, hD⟩ : ∃ z, z = (k_bhD (μ 0) T a b (μ 1, μ 15)) := ⟨_, rfl⟩
  obtain ⟨H, hH⟩ : ∃ z, z = (k_bhH (μ 0) T a b (μ 1, μ 15)) := ⟨_, rfl⟩
  have k_bhI_wf : ∀ v, v ≤ 31 → k_c8 (k_bhI (μ 0) T a b (μ 1, μ 15) v).1 := by
    intro v
    induction v with
    | zero => intro _; exact hw0
    | succ v ih => intro hv; rw [k_bhI_s]; exact k_wf_c8 (k_adv_wf T _ (hw1 _ v (by omega) (ih (by omega))))
  show ch_W X E 10 S μ 0 0 0 [(0, .ref (S.1 15 11 0)), (1, .int (nI a)), (2, .int (nI b)), (3, .int (nI T))] []
  refine ca_aload_nr h dX11_bestHysteresis_0 rfl ?_
  refine ca_iload_n h dX11_bestHysteresis_1 rfl ?_
  refine ca_vv h hG ml_X11_105 (c_X11_requireCell hs q0) (ci := 11) rfl rfl rfl (hs.1 _ _ _ (by show _ ∧ _; exact ⟨by first | assumption | rfl | omega, by first | assumption | rfl | omega⟩)) rfl rfl rfl rfl ⟨Nat.le_refl _, Nat.le_refl _⟩ rfl dX11_bestHysteresis_2 ?_
  refine ca_aload_nr h dX11_bestHysteresis_5 rfl ?_
  refine ca_iload_n h dX11_bestHysteresis_6 rfl ?_
  refine ca_vv h hG ml_X11_105 (c_X11_requireCell hs q1) (ci := 11) rfl rfl rfl (hs.1 _ _ _ (by show _ ∧ _; exact ⟨by first | assumption | rfl | omega, by first | assumption | rfl | omega⟩)) rfl rfl rfl rfl ⟨Nat.le_refl _, Nat.le_refl _⟩ rfl dX11_bestHysteresis_7 ?_
  refine ca_aload_nr h dX11_bestHysteresis_10 rfl ?_
  refine ca_iload_n h dX11_bestHysteresis_11 rfl ?_
  refine ca_bipush h dX11_bestHysteresis_12 bk_30 ?_
  refine ca_vv h hG ml_X11_178 (c_X11_requireTicks hs q2) (ci := 11) rfl rfl rfl (hs.1 _ _ _ (by show _ ∧ _; exact ⟨by first | assumption | rfl | omega, by first | assumption | rfl | omega⟩)) rfl rfl rfl rfl ⟨Nat.le_refl _, Nat.le_refl _⟩ rfl dX11_bestHysteresis_14 ?_
  refine ca_aload_nr h dX11_bestHysteresis_17 rfl ?_
  refine gs_X11_19 h hs (by show _ ∧ _; exact ⟨by first | assumption | rfl | omega, by first | assumption | rfl | omega⟩) dX11_bestHysteresis_18 ?_
  refine ca_iload_n h dX11_bestHysteresis_21 rfl ?_
  refine ca_iload_n h dX11_bestHysteresis_22 rfl ?_
  refine ca_vr h hG ml_X11_108 (c_X3_relJ hs (by decide) ha8 hb8) (ci := 3) rfl rfl rfl (hs.1 _ _ _ (by show _ ∧ _; exact ⟨by first | assumption | rfl | omega, by first | assumption | rfl | omega⟩)) rfl rfl rfl rfl ⟨Nat.le_refl _, Nat.le_refl _⟩ rfl dX11_bestHysteresis_23 ?_
  refine gi_X11_112 h (hs.1 _ _ _ (by show _ ∧ _; exact ⟨by first | assumption | rfl | omega, by first | assumption | rfl | omega⟩)) dX11_bestHysteresis_26 ?_
  refine ca_if_ne (tgt := 35) h dX11_bestHysteresis_29 (by decide) (fun c_29 => ?_) (fun c_29 => ?_)
  ·
    refine ca_iconst h dX11_bestHysteresis_35 ik_0 ?_
    refine ca_istore h dX11_bestHysteresis_36 rfl ?_
    refine ca_iconst h dX11_bestHysteresis_38 ik_0 ?_
    refine ca_istore h dX11_bestHysteresis_39 rfl ?_
    refine ca_iconst h dX11_bestHysteresis_41 ik_0 ?_
    refine ca_istore h dX11_bestHysteresis_42 rfl ?_
    refine ca_iconst h dX11_bestHysteresis_44 ik_0 ?_
    refine ca_istore h dX11_bestHysteresis_45 rfl ?_
    have loop_47 : ∀ (jj n : Nat), n + jj = 31 → ∀ (x4 : Int32) (e4 : x4 = (k_bst D H n).1) (x5 : Int32) (e5 : x5 = (k_bst D H n).2.1) (x6 : Int32) (e6 : x6 = (k_bst D H n).2.2) (x7 : Int32) (e7 : x7 = nI n) (mm : ch_M) (em : mm = up (up μ 1 (k_bhI (μ 0) T a b (μ 1, μ 15) n).1) 15 (k_bhI (μ 0) T a b (μ 1, μ 15) n).2), ch_W X E 10 S mm 0 0 47 [(0, .ref (S.1 15 11 0)), (1, .int (nI a)), (2, .int (nI b)), (3, .int (nI T)), (4, .int x4), (5, .int x5), (6, .int x6), (7, .int x7)] [] := by
      intro jj
      induction jj with
      | zero =>
        intro n hn x4 e4 x5 e5 x6 e6 x7 e7 mm em
        have hn : n = 31 := by omega
        subst e4 e5 e6 e7 em
        refine ca_iload h dX11_bestHysteresis_47 rfl ?_
        refine ca_bipush h dX11_bestHysteresis_49 bk_30 ?_
        refine ca_icmp_gt (tgt := 155) h dX11_bestHysteresis_51 (by decide) (fun c_51 => ?_) (fun c_51 => ?_)
        ·
          refine ca_iload h dX11_bestHysteresis_155 rfl ?_
          refine ca_ireturn h hR rfl dX11_bestHysteresis_157 ?_
          exact ⟨by rw [hn, k_bst_31, hD, hH], rfl, by rw [hn]⟩
        · exact absurd (by rw [hn]; decide) c_51
      | succ jj ih_47 =>
        intro n hn x4 e4 x5 e5 x6 e6 x7 e7 mm em
        have hn1 : n < 31 := by omega
        subst e4 e5 e6 e7 em
        have hwn := k_bhI_wf n (by omega)
        have hDn : D n = (k_bhD (μ 0) T a b (μ 1, μ 15)) n := by rw [hD]
        have hHn : H n = (k_bhH (μ 0) T a b (μ 1, μ 15)) n := by rw [hH]
        unfold k_bhD at hDn
        unfold k_bhH at hHn
        rw [k_bhI_s] at hDn hHn
        obtain ⟨s1, hs1⟩ : ∃ z, z = (k_bhI (μ 0) T a b (μ 1, μ 15) n).1 := ⟨_, rfl⟩
        obtain ⟨s2, hs2⟩ : ∃ z, z = (k_bhI (μ 0) T a b (μ 1, μ 15) n).2 := ⟨_, rfl⟩
        rw [← hs1] at hwn
        rw [← hs1, ← hs2] at hDn hHn
        refine ca_mem (μ'' := up (up μ 1 s1) 15 s2) (by rw [hs1, hs2]) ?_
        obtain ⟨q, hq⟩ : ∃ z, z = k_adv T (nw (k_cp s1 (μ 0)) 2 (8 * a + b) 1 (nI n), s2) := ⟨_, rfl⟩
        rw [← hq] at hDn hHn
        refine ca_iload h dX11_bestHysteresis_47 rfl ?_
        refine ca_bipush h dX11_bestHysteresis_49 bk_30 ?_
        refine ca_icmp_gt (tgt := 155) h dX11_bestHysteresis_51 (by decide) (fun c_51 => ?_) (fun c_51 => ?_)
        · exact absurd c_51 (nI_nlt (a := 30) (by omega) (by decide))
        ·
          refine ca_aload_nr h dX11_bestHysteresis_54 rfl ?_
          refine gs_X11_23 h hs (by show _ ∧ _; exact ⟨by first | assumption | rfl | omega, by first | assumption | rfl | omega⟩) dX11_bestHysteresis_55 ?_
          refine ca_aload_nr h dX11_bestHysteresis_58 rfl ?_
          refine gs_X11_19 h hs (by show _ ∧ _; exact ⟨by first | assumption | rfl | omega, by first | assumption | rfl | omega⟩) dX11_bestHysteresis_59 ?_
          refine ca_vv h hG ml_X11_83 (c_X3_copyFrom hs (by decide) (by decide) (by decide)) (ci := 3) rfl rfl rfl (hs.1 _ _ _ (by show _ ∧ _; exact ⟨by first | assumption | rfl | omega, by first | assumption | rfl | omega⟩)) rfl rfl rfl rfl ⟨Nat.le_refl _, Nat.le_refl _⟩ rfl dX11_bestHysteresis_62 ?_
          rw [up_n (show 1 ≠ 15 by decide), up_s, up_n (show 0 ≠ 15 by decide), up_n (show 0 ≠ 1 by decide)]
          have hwm := hw1 s1 n hn1 hwn
          refine ca_mem (μ'' := up (up μ 15 s2) 1 (k_cp s1 (μ 0))) (by rw [up_sw (show 1 ≠ 15 by decide), up_up]) ?_
          refine ca_aload_nr h dX11_bestHysteresis_65 rfl ?_
          refine gs_X11_23 h hs (by show _ ∧ _; exact ⟨by first | assumption | rfl | omega, by first | assumption | rfl | omega⟩) dX11_bestHysteresis_66 ?_
          refine ca_iload_n h dX11_bestHysteresis_69 rfl ?_
          refine ca_iload_n h dX11_bestHysteresis_70 rfl ?_
          refine ca_vr h hG ml_X11_108 (c_X3_relJ hs (by decide) ha8 hb8) (ci := 3) rfl rfl rfl (hs.1 _ _ _ (by show _ ∧ _; exact ⟨by first | assumption | rfl | omega, by first | assumption | rfl | omega⟩)) rfl rfl rfl rfl ⟨Nat.le_refl _, Nat.le_refl _⟩ rfl dX11_bestHysteresis_71 ?_
          refine ca_iload h dX11_bestHysteresis_74 rfl ?_
          refine pi_X11_117 h (hs.1 _ _ _ (by show _ ∧ _; exact ⟨by first | assumption | rfl | omega, by first | assumption | rfl | omega⟩)) dX11_bestHysteresis_76 ?_
          refine ca_aload_nr h dX11_bestHysteresis_79 rfl ?_
          refine gs_X11_39 h hs (by show _ ∧ _; exact ⟨by first | assumption | rfl | omega, by first | assumption | rfl | omega⟩) dX11_bestHysteresis_80 ?_
          refine ca_aload_nr h dX11_bestHysteresis_83 rfl ?_
          refine gs_X11_23 h hs (by show _ ∧ _; exact ⟨by first | assumption | rfl | omega, by first | assumption | rfl | omega⟩) dX11_bestHysteresis_84 ?_
          refine ca_iload_n h dX11_bestHysteresis_87 rfl ?_
          refine ca_vv h hG ml_X11_186 (c_X8_advance hs (by decide) (by simp only [ch_st_nw, up_s]; exact hwm)) (ci := 8) rfl rfl rfl (hs.1 _ _ _ (by show _ ∧ _; exact ⟨by first | assumption | rfl | omega, by first | assumption | rfl | omega⟩)) rfl rfl rfl rfl ⟨Nat.le_refl _, Nat.le_refl _⟩ rfl dX11_bestHysteresis_88 ?_
          refine ca_mem (μ'' := up (up μ 1 q.1) 15 q.2) (by simp only [ch_st_nw, up_s, up_up, up_n (show 15 ≠ 1 by decide), nI_clamp (show T < 2 ^ 31 by omega), ← hq]; rw [up_sw (show 1 ≠ 15 by decide), up_up, up_sw (show 15 ≠ 1 by decide)]) ?_
          refine ca_aload_nr h dX11_bestHysteresis_91 rfl ?_
          refine gs_X11_23 h hs (by show _ ∧ _; exact ⟨by first | assumption | rfl | omega, by first | assumption | rfl | omega⟩) dX11_bestHysteresis_92 ?_
          refine ca_iconst h dX11_bestHysteresis_95 ik_3 ?_
          refine ca_vi h hG ml_X11_182 (c_X3_totalOf hs (by decide)) (ci := 3) rfl rfl rfl (hs.1 _ _ _ (by show _ ∧ _; exact ⟨by first | assumption | rfl | omega, by first | assumption | rfl | omega⟩)) rfl rfl rfl rfl ⟨Nat.le_refl _, Nat.le_refl _⟩ rfl dX11_bestHysteresis_96 ?_
          rw [up_n (show 1 ≠ 15 by decide), up_s, k_tot3, ← hDn]
          refine ca_istore h dX11_bestHysteresis_99 rfl ?_
          refine ca_aload_nr h dX11_bestHysteresis_101 rfl ?_
          refine gs_X11_23 h hs (by show _ ∧ _; exact ⟨by first | assumption | rfl | omega, by first | assumption | rfl | omega⟩) dX11_bestHysteresis_102 ?_
          refine ca_iconst h dX11_bestHysteresis_105 ik_0 ?_
          refine ca_vi h hG ml_X11_182 (c_X3_totalOf hs (by decide)) (ci := 3) rfl rfl rfl (hs.1 _ _ _ (by show _ ∧ _; exact ⟨by first | assumption | rfl | omega, by first | assumption | rfl | omega⟩)) rfl rfl rfl rfl ⟨Nat.le_refl _, Nat.le_refl _⟩ rfl dX11_bestHysteresis_106 ?_
          rw [up_n (show 1 ≠ 15 by decide), up_s, k_tot0, ← hHn]
          refine ca_istore h dX11_bestHysteresis_109 rfl ?_
          refine ca_iload h dX11_bestHysteresis_111 rfl ?_
          refine ca_if_eq (tgt := 137) h dX11_bestHysteresis_113 (by decide) (fun c_113 => ?_) (fun c_113 => ?_)
          ·
            refine ca_iload h dX11_bestHysteresis_137 rfl ?_
            refine ca_istore h dX11_bestHysteresis_139 rfl ?_
            refine ca_iload h dX11_bestHysteresis_141 rfl ?_
            refine ca_istore h dX11_bestHysteresis_143 rfl ?_
            refine ca_iload h dX11_bestHysteresis_145 rfl ?_
            refine ca_istore h dX11_bestHysteresis_147 rfl ?_
            refine ca_iinc h dX11_bestHysteresis_149 rfl ik_1 rfl ?_
            refine ca_goto (tgt := 47) h dX11_bestHysteresis_152 (by decide) ?_
            refine ca_pick [6, 7, 8, 9, 3, 2, 1, 0] rfl ?_
            have eb := k_bst_y (D := D) (H := H) hn1 (Or.inl c_113)
            exact ih_47 (n + 1) (by omega) _ (by rw [eb]) _ (by rw [eb]) _ (by rw [eb]) _ (nI_1 n) _ (by rw [k_bhI_s, ← hs1, ← hs2, ← hq])
          ·
            refine ca_iload h dX11_bestHysteresis_116 rfl ?_
            refine ca_iload h dX11_bestHysteresis_118 rfl ?_
            refine ca_icmp_lt (tgt := 137) h dX11_bestHysteresis_120 (by decide) (fun c_120 => ?_) (fun c_120 => ?_)
            ·
              refine ca_iload h dX11_bestHysteresis_137 rfl ?_
              refine ca_istore h dX11_bestHysteresis_139 rfl ?_
              refine ca_iload h dX11_bestHysteresis_141 rfl ?_
              refine ca_istore h dX11_bestHysteresis_143 rfl ?_
              refine ca_iload h dX11_bestHysteresis_145 rfl ?_
              refine ca_istore h dX11_bestHysteresis_147 rfl ?_
              refine ca_iinc h dX11_bestHysteresis_149 rfl ik_1 rfl ?_
              refine ca_goto (tgt := 47) h dX11_bestHysteresis_152 (by decide) ?_
              refine ca_pick [6, 7, 8, 9, 3, 2, 1, 0] rfl ?_
              have eb := k_bst_y (D := D) (H := H) hn1 (Or.inr (Or.inl c_120))
              exact ih_47 (n + 1) (by omega) _ (by rw [eb]) _ (by rw [eb]) _ (by rw [eb]) _ (nI_1 n) _ (by rw [k_bhI_s, ← hs1, ← hs2, ← hq])
            ·
              refine ca_iload h dX11_bestHysteresis_123 rfl ?_
              refine ca_iload h dX11_bestHysteresis_125 rfl ?_
              refine ca_icmp_ne (tgt := 149) h dX11_bestHysteresis_127 (by decide) (fun c_127 => ?_) (fun c_127 => ?_)
              ·
                refine ca_iinc h dX11_bestHysteresis_149 rfl ik_1 rfl ?_
                refine ca_goto (tgt := 47) h dX11_bestHysteresis_152 (by decide) ?_
                refine ca_pick [3, 4, 5, 6, 7, 8, 9, 0] rfl ?_
                have eb := k_bst_n (D := D) (H := H) hn1 (fun z => z.elim c_113 (fun z => z.elim c_120 (fun z => c_127 z.1)))
                exact ih_47 (n + 1) (by omega) _ (by rw [eb]) _ (by rw [eb]) _ (by rw [eb]) _ (nI_1 n) _ (by rw [k_bhI_s, ← hs1, ← hs2, ← hq])
              ·
                refine ca_iload h dX11_bestHysteresis_130 rfl ?_
                refine ca_iload h dX11_bestHysteresis_132 rfl ?_
                refine ca_icmp_ge (tgt := 149) h dX11_bestHysteresis_134 (by decide) (fun c_134 => ?_) (fun c_134 => ?_)
                ·
                  refine ca_iinc h dX11_bestHysteresis_149 rfl ik_1 rfl ?_
                  refine ca_goto (tgt := 47) h dX11_bestHysteresis_152 (by decide) ?_
                  refine ca_pick [3, 4, 5, 6, 7, 8, 9, 0] rfl ?_
                  have eb := k_bst_n (D := D) (H := H) hn1 (fun z => z.elim c_113 (fun z => z.elim c_120 (fun z => c_134 z.2)))
                  exact ih_47 (n + 1) (by omega) _ (by rw [eb]) _ (by rw [eb]) _ (by rw [eb]) _ (nI_1 n) _ (by rw [k_bhI_s, ← hs1, ← hs2, ← hq])
                ·
                  refine ca_iload h dX11_bestHysteresis_137 rfl ?_
                  refine ca_istore h dX11_bestHysteresis_139 rfl ?_
                  refine ca_iload h dX11_bestHysteresis_141 rfl ?_
                  refine ca_istore h dX11_bestHysteresis_143 rfl ?_
                  refine ca_iload h dX11_bestHysteresis_145 rfl ?_
                  refine ca_istore h dX11_bestHysteresis_147 rfl ?_
                  refine ca_iinc h dX11_bestHysteresis_149 rfl ik_1 rfl ?_
                  refine ca_goto (tgt := 47) h dX11_bestHysteresis_152 (by decide) ?_
                  refine ca_pick [6, 7, 8, 9, 3, 2, 1, 0] rfl ?_
                  have eb := k_bst_y (D := D) (H := H) hn1 (Or.inr (Or.inr ⟨c_127, c_134⟩))
                  exact ih_47 (n + 1) (by omega) _ (by rw [eb]) _ (by rw [eb]) _ (by rw [eb]) _ (nI_1 n) _ (by rw [k_bhI_s, ← hs1, ← hs2, ← hq])
    refine ca_pick [4, 5, 6, 7, 3, 2, 1, 0] rfl ?_
    exact loop_47 _ 0 (Nat.zero_add _) _ rfl _ rfl _ rfl _ rfl _ (by rw [k_bhI_z, up_id, up_id])
  · exact absurd c_29 hex
set_option maxHeartbeats 100000 in
theorem c_X11_undoN {l : Launch} {E : ch_E} {S : ch_S} {μ : ch_M} (hs : ch_Std E S) (hu : μ 15 14 0 0 = 0) : ch_C E l yX11_undo cX11_undo 1 (some FieldType.int) 5 0 0 S μ [.ref (S.1 15 11 0)] (ch_F (some (.int ((-1)))) S (μ)) := by
  refine ch_enter rfl rfl ?_
  intro X hl0 h hG hR hnm
  have h : ch_H X E RX11 cX11_undo 1 := h
  show ch_W X E 1 S μ 0 0 0 [(0, .ref (S.1 15 11 0))] []
  refine ca_aload_nr h dX11_undo_0 rfl ?_
  refine gs_X11_32 h hs (by show _ ∧ _; exact ⟨by first | assumption | rfl | omega, by first | assumption | rfl | omega⟩) dX11_undo_1 ?_
  refine gi_X11_234 h (hs.1 _ _ _ (by show _ ∧ _; exact ⟨by first | assumption | rfl | omega, by first | assumption | rfl | omega⟩)) dX11_undo_4 ?_
  refine ca_if_gt (tgt := 12) h dX11_undo_7 (by decide) (fun c_7 => ?_) (fun c_7 => ?_)
  · exact absurd c_7 (by rw [hu]; decide)
  ·
    refine ca_iconst h dX11_undo_10 ik_m1 ?_
    refine ca_ireturn h hR rfl dX11_undo_11 ?_
    exact ⟨rfl, rfl, rfl⟩
set_option maxHeartbeats 100000 in
theorem c_X11_undo {l : Launch} {E : ch_E} {S : ch_S} {μ : ch_M} (hs : ch_Std E S) {v : Nat} (hv : v < 12) (hu : μ 15 14 0 0 = nI (v + 1)) {j : Nat} (hj : j < 12) (hnx : μ 15 14 0 1 = nI j) : ch_C E l yX11_undo cX11_undo 1 (some FieldType.int) 5 0 0 S μ [.ref (S.1 15 11 0)] (ch_F (some (.int (nI v))) S (up (up μ 0 (k_cp (μ 0) (μ (3 + k_lx j)))) 15 (k_tkb (μ 15) j))) := by
  refine ch_enter rfl rfl ?_
  intro X hl0 h hG hR hnm
  have h : ch_H X E RX11 cX11_undo 1 := h
  show ch_W X E 1 S μ 0 0 0 [(0, .ref (S.1 15 11 0))] []
  refine ca_aload_nr h dX11_undo_0 rfl ?_
  refine gs_X11_32 h hs (by show _ ∧ _; exact ⟨by first | assumption | rfl | omega, by first | assumption | rfl | omega⟩) dX11_undo_1 ?_
  refine gi_X11_234 h (hs.1 _ _ _ (by show _ ∧ _; exact ⟨by first | assumption | rfl | omega, by first | assumption | rfl | omega⟩)) dX11_undo_4 ?_
  refine ca_if_gt (tgt := 12) h dX11_undo_7 (by decide) (fun c_7 => ?_) (fun c_7 => ?_)
  ·
    refine ca_aload_nr h dX11_undo_12 rfl ?_
    refine gs_X11_32 h hs (by show _ ∧ _; exact ⟨by first | assumption | rfl | omega, by first | assumption | rfl | omega⟩) dX11_undo_13 ?_
    refine ca_aload_nr h dX11_undo_16 rfl ?_
    refine gs_X11_19 h hs (by show _ ∧ _; exact ⟨by first | assumption | rfl | omega, by first | assumption | rfl | omega⟩) dX11_undo_17 ?_
    refine ca_vv h hG ml_X11_237 (c_X1_takeBack hs (by decide) hj hnx) (ci := 1) rfl rfl rfl (hs.1 _ _ _ (by show _ ∧ _; exact ⟨by first | assumption | rfl | omega, by first | assumption | rfl | omega⟩)) rfl rfl rfl rfl ⟨Nat.le_refl _, Nat.le_refl _⟩ rfl dX11_undo_20 ?_
    refine ca_aload_nr h dX11_undo_23 rfl ?_
    refine gs_X11_32 h hs (by show _ ∧ _; exact ⟨by first | assumption | rfl | omega, by first | assumption | rfl | omega⟩) dX11_undo_24 ?_
    refine gi_X11_234 h (hs.1 _ _ _ (by show _ ∧ _; exact ⟨by first | assumption | rfl | omega, by first | assumption | rfl | omega⟩)) dX11_undo_27 ?_
    refine ca_ireturn h hR rfl dX11_undo_30 ?_
    exact ⟨by rw [up_s]; unfold k_tkb; rw [nw_at, if_pos ⟨rfl, rfl, rfl⟩, hu, nI_pred], rfl, rfl⟩
  · exact absurd (by rw [hu]; exact nI_lt (a := 0) (b := v + 1) (Nat.succ_pos v) (by omega)) c_7
set_option maxHeartbeats 100000 in
theorem c_X11_saveSnapshot {l : Launch} {E : ch_E} {S : ch_S} {μ : ch_M} (hs : ch_Std E S) : ch_C E l yX11_saveSnapshot cX11_saveSnapshot 1 none 4 0 0 S μ [.ref (S.1 15 11 0)] (ch_F none S (up (up μ 2 (k_cp (μ 2) (μ 0))) 15 (nw (μ 15) 11 0 7 1))) := by
  refine ch_enter rfl rfl ?_
  intro X hl0 h hG hR hnm
  have h : ch_H X E RX11 cX11_saveSnapshot 1 := h
  show ch_W X E 1 S μ 0 0 0 [(0, .ref (S.1 15 11 0))] []
  refine ca_aload_nr h dX11_saveSnapshot_0 rfl ?_
  refine gs_X11_26 h hs (by show _ ∧ _; exact ⟨by first | assumption | rfl | omega, by first | assumption | rfl | omega⟩) dX11_saveSnapshot_1 ?_
  refine ca_aload_nr h dX11_saveSnapshot_4 rfl ?_
  refine gs_X11_19 h hs (by show _ ∧ _; exact ⟨by first | assumption | rfl | omega, by first | assumption | rfl | omega⟩) dX11_saveSnapshot_5 ?_
  refine ca_vv h hG ml_X11_83 (c_X3_copyFrom hs (by decide) (by decide) (by decide)) (ci := 3) rfl rfl rfl (hs.1 _ _ _ (by show _ ∧ _; exact ⟨by first | assumption | rfl | omega, by first | assumption | rfl | omega⟩)) rfl rfl rfl rfl ⟨Nat.le_refl _, Nat.le_refl _⟩ rfl dX11_saveSnapshot_8 ?_
  refine ca_aload_nr h dX11_saveSnapshot_11 rfl ?_
  refine ca_iconst h dX11_saveSnapshot_12 ik_1 ?_
  refine pi_X11_50 h (hs.1 _ _ _ (by show _ ∧ _; exact ⟨by first | assumption | rfl | omega, by first | assumption | rfl | omega⟩)) (by first | exact Or.inl rfl | exact Or.inr rfl | assumption) dX11_saveSnapshot_13 ?_
  refine ca_vreturn h hR dX11_saveSnapshot_16 ?_
  exact ⟨rfl, rfl, by simp only [ch_st_nw, up_n (show 15 ≠ 2 by decide)]⟩
set_option maxHeartbeats 100000 in
theorem c_X11_restoreSnapshotN {l : Launch} {E : ch_E} {S : ch_S} {μ : ch_M} (hs : ch_Std E S) (hF : μ 15 11 0 7 = 0) : ch_C E l yX11_restoreSnapshot cX11_restoreSnapshot 1 (some FieldType.boolean) 4 0 0 S μ [.ref (S.1 15 11 0)] (ch_F (some (.int (0))) S (μ)) := by
  refine ch_enter rfl rfl ?_
  intro X hl0 h hG hR hnm
  have h : ch_H X E RX11 cX11_restoreSnapshot 1 := h
  show ch_W X E 1 S μ 0 0 0 [(0, .ref (S.1 15 11 0))] []
  refine ca_aload_nr h dX11_restoreSnapshot_0 rfl ?_
  refine gi_X11_50 h (hs.1 _ _ _ (by show _ ∧ _; exact ⟨by first | assumption | rfl | omega, by first | assumption | rfl | omega⟩)) dX11_restoreSnapshot_1 ?_
  refine ca_if_ne (tgt := 9) h dX11_restoreSnapshot_4 (by decide) (fun c_4 => ?_) (fun c_4 => ?_)
  · exact absurd hF c_4
  ·
    refine ca_iconst h dX11_restoreSnapshot_7 ik_0 ?_
    refine ca_ireturn h hR rfl dX11_restoreSnapshot_8 ?_
    exact ⟨rfl, rfl, rfl⟩
set_option maxHeartbeats 100000 in
theorem c_X11_restoreSnapshot {l : Launch} {E : ch_E} {S : ch_S} {μ : ch_M} (hs : ch_Std E S) (hF : ¬ μ 15 11 0 7 = 0) : ch_C E l yX11_restoreSnapshot cX11_restoreSnapshot 1 (some FieldType.boolean) 4 0 0 S μ [.ref (S.1 15 11 0)] (ch_F (some (.int (1))) S (up (up μ 0 (k_cp (μ 0) (μ 2))) 15 (nw (μ 15) 14 0 0 0))) := by
  refine ch_enter rfl rfl ?_
  intro X hl0 h hG hR hnm
  have h : ch_H X E RX11 cX11_restoreSnapshot 1 := h
  show ch_W X E 1 S μ 0 0 0 [(0, .ref (S.1 15 11 0))] []
  refine ca_aload_nr h dX11_restoreSnapshot_0 rfl ?_
  refine gi_X11_50 h (hs.1 _ _ _ (by show _ ∧ _; exact ⟨by first | assumption | rfl | omega, by first | assumption | rfl | omega⟩)) dX11_restoreSnapshot_1 ?_
  refine ca_if_ne (tgt := 9) h dX11_restoreSnapshot_4 (by decide) (fun c_4 => ?_) (fun c_4 => ?_)
  ·
    refine ca_aload_nr h dX11_restoreSnapshot_9 rfl ?_
    refine gs_X11_19 h hs (by show _ ∧ _; exact ⟨by first | assumption | rfl | omega, by first | assumption | rfl | omega⟩) dX11_restoreSnapshot_10 ?_
    refine ca_aload_nr h dX11_restoreSnapshot_13 rfl ?_
    refine gs_X11_26 h hs (by show _ ∧ _; exact ⟨by first | assumption | rfl | omega, by first | assumption | rfl | omega⟩) dX11_restoreSnapshot_14 ?_
    refine ca_vv h hG ml_X11_83 (c_X3_copyFrom hs (by decide) (by decide) (by decide)) (ci := 3) rfl rfl rfl (hs.1 _ _ _ (by show _ ∧ _; exact ⟨by first | assumption | rfl | omega, by first | assumption | rfl | omega⟩)) rfl rfl rfl rfl ⟨Nat.le_refl _, Nat.le_refl _⟩ rfl dX11_restoreSnapshot_17 ?_
    refine ca_aload_nr h dX11_restoreSnapshot_20 rfl ?_
    refine gs_X11_32 h hs (by show _ ∧ _; exact ⟨by first | assumption | rfl | omega, by first | assumption | rfl | omega⟩) dX11_restoreSnapshot_21 ?_
    refine ca_vv h hG ml_X11_87 (c_X1_forget hs) (ci := 1) rfl rfl rfl (hs.1 _ _ _ (by show _ ∧ _; exact ⟨by first | assumption | rfl | omega, by first | assumption | rfl | omega⟩)) rfl rfl rfl rfl ⟨Nat.le_refl _, Nat.le_refl _⟩ rfl dX11_restoreSnapshot_24 ?_
    refine ca_iconst h dX11_restoreSnapshot_27 ik_1 ?_
    refine ca_ireturn h hR rfl dX11_restoreSnapshot_28 ?_
    exact ⟨rfl, rfl, by simp only [up_n (show 15 ≠ 0 by decide)]⟩
  · exact absurd c_4 hF
set_option maxHeartbeats 100000 in
theorem c_X11_feedF {l : Launch} {E : ch_E} {S : ch_S} {μ : ch_M} (hs : ch_Std E S) {a b c d e : Int32} {L : Nat} (hL : μ 15 12 0 0 = nI L) (hL7 : L ≤ 700) (hf : ¬ L + 20 ≤ 700) : ch_C E l yX11_feed cX11_feed 6 (some FieldType.int) 2 0 0 S μ [.ref (S.1 15 11 0), .int a, .int b, .int c, .int d, .int e] (ch_F (some (.int ((-1)))) S (μ)) := by
  refine ch_enter rfl rfl ?_
  intro X hl0 h hG hR hnm
  have h : ch_H X E RX11 cX11_feed 6 := h
  show ch_W X E 6 S μ 0 0 0 [(0, .ref (S.1 15 11 0)), (1, .int a), (2, .int b), (3, .int c), (4, .int d), (5, .int e)] []
  refine ca_aload_nr h dX11_feed_0 rfl ?_
  refine gs_X11_10 h hs (by show _ ∧ _; exact ⟨by first | assumption | rfl | omega, by first | assumption | rfl | omega⟩) dX11_feed_1 ?_
  refine gi_X11_54 h (hs.1 _ _ _ (by show _ ∧ _; exact ⟨by first | assumption | rfl | omega, by first | assumption | rfl | omega⟩)) dX11_feed_4 ?_
  refine ca_sipush h dX11_feed_7 sk_680 ?_
  refine ca_icmp_le (tgt := 15) h dX11_feed_10 (by decide) (fun c_10 => ?_) (fun c_10 => ?_)
  · exact absurd (show nI 680 < μ 15 12 0 0 from (by rw [hL]; exact nI_lt (by omega) (by omega))) c_10
  ·
    refine ca_iconst h dX11_feed_13 ik_m1 ?_
    refine ca_ireturn h hR rfl dX11_feed_14 ?_
    exact ⟨rfl, rfl, rfl⟩
set_option maxHeartbeats 100000 in
theorem c_X11_feed {l : Launch} {E : ch_E} {S : ch_S} {μ : ch_M} (hs : ch_Std E S) {a b c d e : Int32} {L : Nat} (hL : μ 15 12 0 0 = nI L) (hf : L + 20 ≤ 700) : ch_C E l yX11_feed cX11_feed 6 (some FieldType.int) 2 0 0 S μ [.ref (S.1 15 11 0), .int a, .int b, .int c, .int d, .int e] (ch_F (some (.int (nI (L + 20)))) S (up μ 15 (k_fd (μ 15) a b c d e))) := by
  refine ch_enter rfl rfl ?_
  intro X hl0 h hG hR hnm
  have h : ch_H X E RX11 cX11_feed 6 := h
  have f1 : (t_app (μ 15) a 4) 12 0 0 = nI (L + 4) := by rw [t_app_f, hL]; exact nI_add ..
  have f2 : (t_app (t_app (μ 15) a 4) b 4) 12 0 0 = nI (L + 8) := by rw [t_app_f, f1]; exact nI_add ..
  have f3 : (t_app (t_app (t_app (μ 15) a 4) b 4) c 4) 12 0 0 = nI (L + 12) := by rw [t_app_f, f2]; exact nI_add ..
  have f4 : (t_app (t_app (t_app (t_app (μ 15) a 4) b 4) c 4) d 4) 12 0 0 = nI (L + 16) := by rw [t_app_f, f3]; exact nI_add ..
  have f5 : (t_app (t_app (t_app (t_app (t_app (μ 15) a 4) b 4) c 4) d 4) e 4) 12 0 0 = nI (L + 20) := by rw [t_app_f, f4]; exact nI_add ..
  show ch_W X E 6 S μ 0 0 0 [(0, .ref (S.1 15 11 0)), (1, .int a), (2, .int b), (3, .int c), (4, .int d), (5, .int e)] []
  refine ca_aload_nr h dX11_feed_0 rfl ?_
  refine gs_X11_10 h hs (by show _ ∧ _; exact ⟨by first | assumption | rfl | omega, by first | assumption | rfl | omega⟩) dX11_feed_1 ?_
  refine gi_X11_54 h (hs.1 _ _ _ (by show _ ∧ _; exact ⟨by first | assumption | rfl | omega, by first | assumption | rfl | omega⟩)) dX11_feed_4 ?_
  refine ca_sipush h dX11_feed_7 sk_680 ?_
  refine ca_icmp_le (tgt := 15) h dX11_feed_10 (by decide) (fun c_10 => ?_) (fun c_10 => ?_)
  ·
    refine ca_aload_nr h dX11_feed_15 rfl ?_
    refine gs_X11_10 h hs (by show _ ∧ _; exact ⟨by first | assumption | rfl | omega, by first | assumption | rfl | omega⟩) dX11_feed_16 ?_
    refine ca_iload_n h dX11_feed_19 rfl ?_
    refine ca_vv h hG ml_X11_58 (c_X10_append hs hL (by omega)) (ci := 10) rfl rfl rfl (hs.1 _ _ _ (by show _ ∧ _; exact ⟨by first | assumption | rfl | omega, by first | assumption | rfl | omega⟩)) rfl rfl rfl rfl ⟨Nat.le_refl _, Nat.le_refl _⟩ rfl dX11_feed_20 ?_
    refine ca_aload_nr h dX11_feed_23 rfl ?_
    refine gs_X11_10 h hs (by show _ ∧ _; exact ⟨by first | assumption | rfl | omega, by first | assumption | rfl | omega⟩) dX11_feed_24 ?_
    refine ca_iload_n h dX11_feed_27 rfl ?_
    refine ca_vv h hG ml_X11_58 (c_X10_append hs (show _ = nI (L + 4) from (by rw [up_s]; exact f1)) (by omega)) (ci := 10) rfl rfl rfl (hs.1 _ _ _ (by show _ ∧ _; exact ⟨by first | assumption | rfl | omega, by first | assumption | rfl | omega⟩)) rfl rfl rfl rfl ⟨Nat.le_refl _, Nat.le_refl _⟩ rfl dX11_feed_28 ?_
    rw [up_s, up_up]
    refine ca_aload_nr h dX11_feed_31 rfl ?_
    refine gs_X11_10 h hs (by show _ ∧ _; exact ⟨by first | assumption | rfl | omega, by first | assumption | rfl | omega⟩) dX11_feed_32 ?_
    refine ca_iload_n h dX11_feed_35 rfl ?_
    refine ca_vv h hG ml_X11_58 (c_X10_append hs (show _ = nI (L + 8) from (by rw [up_s]; exact f2)) (by omega)) (ci := 10) rfl rfl rfl (hs.1 _ _ _ (by show _ ∧ _; exact ⟨by first | assumption | rfl | omega, by first | assumption | rfl | omega⟩)) rfl rfl rfl rfl ⟨Nat.le_refl _, Nat.le_refl _⟩ rfl dX11_feed_36 ?_
    rw [up_s, up_up]
    refine ca_aload_nr h dX11_feed_39 rfl ?_
    refine gs_X11_10 h hs (by show _ ∧ _; exact ⟨by first | assumption | rfl | omega, by first | assumption | rfl | omega⟩) dX11_feed_40 ?_
    refine ca_iload h dX11_feed_43 rfl ?_
    refine ca_vv h hG ml_X11_58 (c_X10_append hs (show _ = nI (L + 12) from (by rw [up_s]; exact f3)) (by omega)) (ci := 10) rfl rfl rfl (hs.1 _ _ _ (by show _ ∧ _; exact ⟨by first | assumption | rfl | omega, by first | assumption | rfl | omega⟩)) rfl rfl rfl rfl ⟨Nat.le_refl _, Nat.le_refl _⟩ rfl dX11_feed_45 ?_
    rw [up_s, up_up]
    refine ca_aload_nr h dX11_feed_48 rfl ?_
    refine gs_X11_10 h hs (by show _ ∧ _; exact ⟨by first | assumption | rfl | omega, by first | assumption | rfl | omega⟩) dX11_feed_49 ?_
    refine ca_iload h dX11_feed_52 rfl ?_
    refine ca_vv h hG ml_X11_58 (c_X10_append hs (show _ = nI (L + 16) from (by rw [up_s]; exact f4)) (by omega)) (ci := 10) rfl rfl rfl (hs.1 _ _ _ (by show _ ∧ _; exact ⟨by first | assumption | rfl | omega, by first | assumption | rfl | omega⟩)) rfl rfl rfl rfl ⟨Nat.le_refl _, Nat.le_refl _⟩ rfl dX11_feed_54 ?_
    rw [up_s, up_up]
    refine ca_aload_nr h dX11_feed_57 rfl ?_
    refine gs_X11_10 h hs (by show _ ∧ _; exact ⟨by first | assumption | rfl | omega, by first | assumption | rfl | omega⟩) dX11_feed_58 ?_
    refine gi_X11_54 h (hs.1 _ _ _ (by show _ ∧ _; exact ⟨by first | assumption | rfl | omega, by first | assumption | rfl | omega⟩)) dX11_feed_61 ?_
    refine ca_ireturn h hR rfl dX11_feed_64 ?_
    exact ⟨by rw [up_s, f5], rfl, rfl⟩
  · exact absurd c_10 (by rw [hL]; exact nI_nlt (a := 680) (by omega) (by decide))
