/-! NEW ARRAYS OF REPORTS: frames, stores of references -/
/-- what an own method that makes arrays leaves: all but the networks 16 (written), 18 (grown), 17, 21, 22 (scratch) -/
def o_fr (S : ch_S) (μ : ch_M) (S' : ch_S) (μ' : ch_M) : Prop :=
  (∀ k, k ≠ 16 → k ≠ 17 → k ≠ 18 → k ≠ 21 → k ≠ 22 → S'.1 k = S.1 k ∧ S'.2.1 k = S.2.1 k ∧ S'.2.2 k = S.2.2 k ∧ μ' k = μ k) ∧
  (S'.1 16 = S.1 16 ∧ S'.2.1 16 = S.2.1 16 ∧ ∀ kd i, ¬ (kd = 24 ∧ 8 ≤ i) → S'.2.2 16 kd i = S.2.2 16 kd i) ∧
  (∀ kd i, S.2.1 18 kd i → S'.2.1 18 kd i ∧ S'.1 18 kd i = S.1 18 kd i ∧ μ' 18 kd i = μ 18 kd i)
theorem o_fr_0 {S : ch_S} {μ : ch_M} : o_fr S μ S μ := ⟨fun _ _ _ _ _ _ => ⟨rfl, rfl, rfl, rfl⟩, ⟨rfl, rfl, fun _ _ _ => rfl⟩, fun _ _ h => ⟨h, rfl, rfl⟩⟩
theorem o_fr_tr {S S1 S2 : ch_S} {μ μ1 μ2 : ch_M} (h : o_fr S μ S1 μ1) (g : o_fr S1 μ1 S2 μ2) : o_fr S μ S2 μ2 := by
  refine ⟨fun k a b c d e => ?_, ⟨g.2.1.1.trans h.2.1.1, g.2.1.2.1.trans h.2.1.2.1, fun kd i z => (g.2.1.2.2 kd i z).trans (h.2.1.2.2 kd i z)⟩, fun kd i z => ?_⟩
  · obtain ⟨h1, h2, h3, h4⟩ := h.1 k a b c d e
    obtain ⟨g1, g2, g3, g4⟩ := g.1 k a b c d e
    exact ⟨g1.trans h1, g2.trans h2, g3.trans h3, g4.trans h4⟩
  · obtain ⟨h1, h2, h3⟩ := h.2.2 kd i z
    obtain ⟨g1, g2, g3⟩ := g.2.2 kd i h1
    exact ⟨g1, g2.trans h2, g3.trans h3⟩
theorem o_fr_16 {S : ch_S} {μ μ' : ch_M} (h : o_f16 μ μ') : o_fr S μ S μ' := ⟨fun k a _ _ _ _ => ⟨rfl, rfl, rfl, h k a⟩, ⟨rfl, rfl, fun _ _ _ => rfl⟩, fun _ _ z => ⟨z, rfl, by rw [h 18 (by decide)]⟩⟩
theorem o_fr_st {S S' : ch_S} {μ μ' : ch_M} {kd i j : Nat} {v : Int32} (h : o_fr S μ S' μ') : o_fr S μ S' (ch_st μ' 16 kd i j v) := o_fr_tr h (o_fr_16 (o_f16_st o_f16_0))
theorem o_nw_a {k kd i : Nat} {S S' : ch_S} {μ μ' : ch_M} (h : o_nw k kd i S μ S' μ') {a : Nat} (ha : a ≠ k) : S'.1 a = S.1 a := by funext b c; exact (h.2.2 a b c (fun z => ha z.1)).1
theorem o_nw_v {k kd i : Nat} {S S' : ch_S} {μ μ' : ch_M} (h : o_nw k kd i S μ S' μ') {a : Nat} (ha : a ≠ k) : S'.2.1 a = S.2.1 a := by funext b c; exact propext (h.2.2 a b c (fun z => ha z.1)).2.1
theorem o_nw_r {k kd i : Nat} {S S' : ch_S} {μ μ' : ch_M} (h : o_nw k kd i S μ S' μ') {a : Nat} (ha : a ≠ k) : S'.2.2 a = S.2.2 a := by funext b c; exact (h.2.2 a b c (fun z => ha z.1)).2.2.1
theorem o_nw_m {k kd i : Nat} {S S' : ch_S} {μ μ' : ch_M} (h : o_nw k kd i S μ S' μ') {a : Nat} (ha : a ≠ k) : μ' a = μ a := by funext b c; exact (h.2.2 a b c (fun z => ha z.1)).2.2.2
theorem o_fr_nw18 {kd i : Nat} {S S' : ch_S} {μ μ' : ch_M} (h : o_nw 18 kd i S μ S' μ') (hF : ¬ S.2.1 18 kd i) : o_fr S μ S' μ' := by
  refine ⟨fun k a b c d e => ⟨o_nw_a h c, o_nw_v h c, o_nw_r h c, o_nw_m h c⟩, ⟨o_nw_a h (by decide), o_nw_v h (by decide), fun kd i _ => by rw [o_nw_r h (by decide)]⟩, fun kd' i' z => ?_⟩
  have e : ¬ (18 = 18 ∧ kd' = kd ∧ i' = i) := fun y => by obtain ⟨-, rfl, rfl⟩ := y; exact hF z
  obtain ⟨g1, g2, g3, g4⟩ := h.2.2 18 kd' i' e
  exact ⟨g2.mpr z, g1, g4⟩
/-- scratch arrays -/
theorem o_fr_nws {k kd i : Nat} {S S' : ch_S} {μ μ' : ch_M} (h : o_nw k kd i S μ S' μ') (hk : k = 17 ∨ k = 21 ∨ k = 22) : o_fr S μ S' μ' := by
  have e : ∀ a, a ≠ 17 → a ≠ 21 → a ≠ 22 → a ≠ k := by rcases hk with rfl | rfl | rfl <;> intro a h1 h2 h3 <;> assumption
  refine ⟨fun a b c d e1 e2 => ⟨o_nw_a h (e a c e1 e2), o_nw_v h (e a c e1 e2), o_nw_r h (e a c e1 e2), o_nw_m h (e a c e1 e2)⟩, ⟨o_nw_a h (e 16 (by decide) (by decide) (by decide)), o_nw_v h (e 16 (by decide) (by decide) (by decide)), fun kd i _ => by rw [o_nw_r h (e 16 (by decide) (by decide) (by decide))]⟩, fun kd' i' z => ?_⟩
  have e18 := e 18 (by decide) (by decide) (by decide)
  rw [o_nw_a h e18, o_nw_v h e18, o_nw_m h e18]
  exact ⟨z, rfl, rfl⟩
theorem o_fr_sst {S S' : ch_S} {μ μ' : ch_M} {k kd i j : Nat} {v : Int32} (h : o_fr S μ S' μ') (hk : k = 17 ∨ k = 21 ∨ k = 22) : o_fr S μ S' (ch_st μ' k kd i j v) := by
  have e : ∀ a, a ≠ 17 → a ≠ 21 → a ≠ 22 → a ≠ k := by rcases hk with rfl | rfl | rfl <;> intro a h1 h2 h3 <;> assumption
  have x : ∀ a, a ≠ k → ch_st μ' k kd i j v a = μ' a := fun a ha => by unfold ch_st; exact up_n ha
  exact ⟨fun a b c d e1 e2 => by rw [x a (e a c e1 e2)]; exact h.1 a b c d e1 e2, h.2.1, fun kd' i' z => by rw [x 18 (e 18 (by decide) (by decide) (by decide))]; exact h.2.2 kd' i' z⟩
/-- a reference stored -/
def o_rfd (k kd i j r : Nat) (S S' : ch_S) : Prop := S'.1 = S.1 ∧ S'.2.1 = S.2.1 ∧ S'.2.2 k kd i j = some r ∧ ∀ a b c d, ¬ (a = k ∧ b = kd ∧ c = i ∧ d = j) → S'.2.2 a b c d = S.2.2 a b c d
theorem o_rfd_mk (k kd i j r : Nat) (S : ch_S) : o_rfd k kd i j r S (s_rf S k kd i j r) := ⟨rfl, rfl, by unfold s_rf; exact if_pos ⟨rfl, rfl, rfl, rfl⟩, fun a b c d h => by unfold s_rf; exact if_neg h⟩
theorem o_fr_rf {i j r : Nat} {S S' : ch_S} {μ : ch_M} (h : o_rfd 16 24 i j r S S') (hi : 8 ≤ i) : o_fr S μ S' μ := by
  refine ⟨fun k a _ _ _ _ => ⟨by rw [h.1], by rw [h.2.1], by funext x y z; exact h.2.2.2 k x y z (fun q => a q.1), rfl⟩, ⟨by rw [h.1], by rw [h.2.1], fun kd i' z => ?_⟩, fun kd i' z => ⟨by rw [h.2.1]; exact z, by rw [h.1], rfl⟩⟩
  funext d
  exact h.2.2.2 16 kd i' d (fun q => z ⟨q.2.1, by omega⟩)
section ORows2
variable {X : ch_X} {E : ch_E} {own : String} {cc : ByteArray} {nL : Nat} {S : ch_S} {μ : ch_M} {kc ks pc : Nat} {L : List (Nat × Value)} {st : List Value}
theorem oa_astB (h : ch_H X E own cc nL) {k kd i n k2 kd2 i2 n2 : Nat} {x : Int32} {j : Nat} (hk : ch_kd kd = .inr (5, 1, n)) (hv : S.2.1 k kd i) (hk2 : ch_kd kd2 = .inr (0, 0, n2)) (hv2 : S.2.1 k2 kd2 i2) (hx : x = nI j) (hj : j < n) (hn : Nat.ble n 1000 = true) (hd : decode cc pc = .ok (.aastore, 1))
    (kk : ∀ S', o_rfd k kd i j (S.1 k2 kd2 i2) S S' → ch_W X E nL S' μ kc ks (pc + 1) L st) : ch_W X E nL S μ kc ks pc L (.ref (S.1 k2 kd2 i2) :: .int x :: .ref (S.1 k kd i) :: st) :=
  oa_astA h hk hv hk2 hv2 rfl hx hj hn hd (kk _ (o_rfd_mk _ _ _ _ _ _))
end ORows2
/-- one mobile's array of reports set -/
theorem o_R_rp {S S' : ch_S} {μ μ' : ch_M} {w w' : Nat → Int32} {M m c N id : Nat} (h : o_R S μ w M) (hc : c < 8) (hN : N ≤ 8)
    (h18 : ∀ kd i, S.2.1 18 kd i → S'.2.1 18 kd i ∧ S'.1 18 kd i = S.1 18 kd i ∧ μ' 18 kd i = μ 18 kd i) (hr : ∀ m' c', ¬ (m' = m ∧ c' = c) → S'.2.2 16 24 (8 + m') c' = S.2.2 16 24 (8 + m') c')
    (hv : S'.2.1 18 (N + 40) id) (hv2 : S'.2.2 16 24 (8 + m) c = some (S'.1 18 (N + 40) id)) (h16 : μ' 16 = μ 16) (hw : w' (210 + 91 * m + (19 + c)) = nI N) (hwt : ∀ t, t < N → μ' 18 (N + 40) id t = w' (210 + 91 * m + (27 + 8 * c + t)))
    (hwo : ∀ i, i ≠ 210 + 91 * m + (19 + c) → (∀ t, t < 8 → i ≠ 210 + 91 * m + (27 + 8 * c + t)) → w' i = w i) : o_R S' μ' w' M := by
  refine ⟨fun j hj => ?_, fun m' hm' => ?_⟩
  · have := o_hd_lt hj
    rw [h16, hwo _ (by omega) (fun t ht => by omega)]; exact h.1 j hj
  · obtain ⟨h1, h2, h3⟩ := h.2 m' hm'
    refine ⟨fun f hf => ?_, fun c' hc' => ?_, fun c' hc' => ?_⟩
    · rw [h16, hwo _ (o_ix (by omega) (by omega) (by omega)) (fun t ht => o_ix (by omega) (by omega) (by omega))]; exact h1 f hf
    · rw [h16, hwo _ (o_ix (by omega) (by omega) (by omega)) (fun t ht => o_ix (by omega) (by omega) (by omega))]; exact h2 c' hc'
    · by_cases e : m' = m ∧ c' = c
      · obtain ⟨rfl, rfl⟩ := e
        exact ⟨N, id, hw, hN, hv, hv2, hwt⟩
      · obtain ⟨N', id', g1, g2, g3, g4, g5⟩ := h3 c' hc'
        obtain ⟨q1, q2, q3⟩ := h18 _ _ g3
        refine ⟨N', id', ?_, g2, q1, by rw [hr _ _ e, q2]; exact g4, fun t ht => ?_⟩
        · rw [hwo _ (o_ix (by omega) (by omega) (by omega)) (fun t ht => o_ix (by omega) (by omega) (by omega))]; exact g1
        · rw [q3, hwo _ (o_ix (by omega) (by omega) (by omega)) (fun t' ht' => o_ix (by omega) (by omega) (by omega))]; exact g5 t ht
theorem o_St_fr {S S' : ch_S} {μ μ' : ch_M} {cc M : Nat} (h : o_St S cc M) (f : o_fr S μ S' μ') (hF : ∃ F, ∀ kd i, F ≤ i → ¬ S'.2.1 18 kd i) : o_St S' cc M := by
  have k16 : ∀ {k kd i}, o_V cc M k kd i → k = 16 := by
    intro k kd i hv
    unfold o_V at hv
    split at hv <;> first | exact hv.1 | exact hv.elim
  refine ⟨fun k kd i hv => ?_, fun k kd i j a hv hr => ?_, hF⟩
  · have e := k16 hv; subst e
    rw [f.2.1.2.1]; exact h.1 _ _ _ hv
  · have e := k16 hv; subst e
    have h2 := h.2.1 _ _ _ _ _ hv hr
    have ea : a.1 = 16 := by
      unfold o_rt at hr
      split at hr
      · split at hr <;> first | (cases hr; rfl) | cases hr
      · split at hr <;> first | (cases hr; rfl) | cases hr
      · split at hr <;> first | (cases hr; rfl) | cases hr
      · split at hr <;> first | (cases hr; rfl) | cases hr
      · cases hr
    have e24 : ¬ (kd = 24 ∧ 8 ≤ i) := by
      rintro ⟨rfl, h8⟩
      have : ¬ (i < 4 ∧ (i = 0 → j < cc) ∧ j < 8) := fun z => by omega
      have hr2 : (if i < 4 ∧ (i = 0 → j < cc) ∧ j < 8 then some (16, 48, 8 * i + j) else none) = some a := hr
      rw [if_neg this] at hr2; cases hr2
    rw [f.2.1.2.2 kd i e24, h2, ea, f.2.1.1]
/-- the fresh names behind a new one -/
theorem o_F_nw {kd i F : Nat} {S S' : ch_S} {μ μ' : ch_M} (h : o_nw 18 kd i S μ S' μ') (hF : ∀ kd i, F ≤ i → ¬ S.2.1 18 kd i) (hi : i ≤ F) : ∃ F, ∀ kd i, F ≤ i → ¬ S'.2.1 18 kd i := by
  refine ⟨F + 1, fun kd' i' z y => ?_⟩
  have e : ¬ (18 = 18 ∧ kd' = kd ∧ i' = i) := fun q => by omega
  exact hF kd' i' (by omega) ((h.2.2 18 kd' i' e).2.1.mp y)
/-- a post: arrays made, network 16 written -/
def o_PS (v : Option Value) (n' : ch_N) (S : ch_S) (μ : ch_M) : Option Value → ch_S → ch_M → Prop := fun v' S' μ' => v' = v ∧ o_fr S μ S' μ' ∧ ∃ w', o_NW n' w' S' μ'
theorem r_bgL_s (w : Nat → Int32) (m k : Nat) : r_bgL w m (k + 1) = up (up (r_bgL w m k) (210 + 91 * m + (19 + k)) 0) (210 + 91 * m + (11 + k)) (-1) := rfl
theorem ch_bs16 {X : ch_X} {E : ch_E} {S : ch_S} {cc M : Nat} (h : o_St S cc M) : ch_bs X E S := Or.inr ⟨16, 22, 0, h.1 _ _ _ ⟨rfl, rfl⟩⟩
set_option maxHeartbeats 400000 in
theorem c_X12_begins {l : Launch} {E : ch_E} {S : ch_S} {μ : ch_M} {cc M : Nat} {w : Nat → Int32} (hst : o_St S cc M) (hO : o_R S μ w M) {m : Nat} (hm : m < M) {c : Int32} : ch_C E l yX12_begins cX12_begins 3 none 1 8 0 S μ [.ref (S.1 16 23 m), .int c] (fun v' S' μ' => v' = none ∧ o_fr S μ S' μ' ∧ o_St S' cc M ∧ o_R S' μ' (r_beg w m c) M ∧ (∀ i, i < 40 → μ' 16 48 i = μ 16 48 i) ∧ μ' 16 22 = μ 16 22) := by
  refine ch_enter rfl rfl ?_
  intro X hl0 h hG hR hnm
  have h : ch_H X E RX12 cX12_begins 3 := h
  show ch_W X E 3 S μ 0 0 0 [(0, .ref (S.1 16 23 m)), (1, .int c)] []
  refine ca_aload_nr h dX12_begins_0 rfl ?_
  refine ca_iconst h dX12_begins_1 ik_1 ?_
  refine pi_X12_38 h (hst.1 _ _ _ (by show _ ∧ _; omega)) dX12_begins_2 ?_
  refine ca_aload_nr h dX12_begins_5 rfl ?_
  refine ca_iload_n h dX12_begins_6 rfl ?_
  refine pi_X12_7 h (hst.1 _ _ _ (by show _ ∧ _; omega)) dX12_begins_7 ?_
  refine ca_aload_nr h dX12_begins_10 rfl ?_
  refine ca_iconst h dX12_begins_11 ik_0 ?_
  refine pi_X12_44 h (hst.1 _ _ _ (by show _ ∧ _; omega)) dX12_begins_12 ?_
  refine ca_aload_nr h dX12_begins_15 rfl ?_
  refine ca_iconst h dX12_begins_16 ik_m1 ?_
  refine pi_X12_13 h (hst.1 _ _ _ (by show _ ∧ _; omega)) dX12_begins_17 ?_
  refine ca_iconst h dX12_begins_20 ik_0 ?_
  refine ca_istore_n h dX12_begins_21 rfl ?_
  obtain ⟨w1, hw1⟩ : ∃ w1, w1 = r_wd (up (up (up w (210 + 91 * m + 4) 1) (210 + 91 * m + 5) c) (210 + 91 * m + 7) 0) m := ⟨_, rfl⟩
  obtain ⟨S0, rfl⟩ : ∃ z, z = S := ⟨_, rfl⟩
  obtain ⟨μ0, rfl⟩ : ∃ z, z = μ := ⟨_, rfl⟩
  have loop_22 : ∀ (jj k : Nat), k + jj = 8 → ∀ (S : ch_S) (μ : ch_M) (hst : o_St S cc M) (hO : o_R S μ (r_bgL w1 m k) M) (hf : o_fr S0 μ0 S μ) (h48 : ∀ i, i < 40 → μ 16 48 i = μ0 16 48 i) (h22 : μ 16 22 = μ0 16 22), ch_W X E 3 S μ k 0 22 [(0, .ref (S.1 16 23 m)), (1, .int c), (2, .int (nI k))] [] := by
    intro jj
    induction jj with
    | zero =>
      intro k hn S μ hst hO hf h48 h22
      have hn : k = 8 := by omega
      refine ca_iload_n h dX12_begins_22 rfl ?_
      refine ca_bipush h dX12_begins_23 bk_8 ?_
      refine ca_icmp_ge (tgt := 50) h dX12_begins_25 (by decide) (fun c_25 => ?_) (fun c_25 => ?_)
      ·
        refine ca_widen (k := 8) (n := 0) (by omega) (by omega) ?_
        refine ca_vreturn h hR dX12_begins_50 ?_
        refine ⟨rfl, hf, hst, ?_, h48, h22⟩
        rw [hn, hw1] at hO
        exact hO
      · exact absurd c_25 (by rw [hn]; decide)
    | succ jj ih_22 =>
      intro k hn S μ hst hO hf h48 h22
      have hn1 : k < 8 := by omega
      refine ca_iload_n h dX12_begins_22 rfl ?_
      refine ca_bipush h dX12_begins_23 bk_8 ?_
      refine ca_icmp_ge (tgt := 50) h dX12_begins_25 (by decide) (fun c_25 => ?_) (fun c_25 => ?_)
      · exact absurd (nI_lt hn1 (by decide)) c_25
      ·
        refine ca_aload_nr h dX12_begins_28 rfl ?_
        refine gr_X12_16 h (hst.1 _ _ _ (by show _ ∧ _; omega)) (hst.2.1 _ _ _ _ _ (by show _ ∧ _; omega) rfl) dX12_begins_29 ?_
        show ch_W X E _ _ _ _ _ _ _ (.ref (S.1 16 48 (40 + m)) :: _)
        refine ca_iload_n h dX12_begins_32 rfl ?_
        refine ca_iconst h dX12_begins_33 ik_m1 ?_
        refine oa_iast h (j := k) rfl (hst.1 _ _ _ (by show _ ∧ _; omega)) rfl (by omega) (by decide) dX12_begins_34 ?_
        obtain ⟨F, hF⟩ := hst.2.2
        have hO := o_R_bar (m := m) (c := k) (v := -1) hO (by omega)
        have hf := o_fr_st (kd := 48) (i := 40 + m) (j := k) (v := -1) hf
        have h48 : ∀ i, i < 40 → ch_st μ 16 48 (40 + m) k (-1) 16 48 i = μ0 16 48 i := fun i hi => (o_st_r (by omega)).trans (h48 i hi)
        have h22 : ch_st μ 16 48 (40 + m) k (-1) 16 22 = μ0 16 22 := (o_st_k (by decide)).trans h22
        obtain ⟨μ, eμ⟩ : ∃ z, z = ch_st μ 16 48 (40 + m) k (-1) := ⟨_, rfl⟩
        rw [← eμ] at hO hf h48 h22 ⊢
        refine ca_aload_nr h dX12_begins_35 rfl ?_
        refine gr_X12_22 h (hst.1 _ _ _ (by show _ ∧ _; omega)) (hst.2.1 _ _ _ _ _ (by show _ ∧ _; omega) rfl) dX12_begins_36 ?_
        show ch_W X E _ _ _ _ _ _ _ (.ref (S.1 16 24 (8 + m)) :: _)
        refine ca_iload_n h dX12_begins_39 rfl ?_
        refine ca_iconst h dX12_begins_40 ik_0 ?_
        refine oa_newI 18 40 F (n := 0) h hG (ch_bs16 hst) rfl kw_67 rfl (by decide) ⟨by omega, by omega⟩ dX12_begins_41 ?_
        intro S μ hw
        rw [← o_nw_a hw (show 16 ≠ 18 by decide)]
        have h48 : ∀ i, i < 40 → μ 16 48 i = μ0 16 48 i := fun i hi => (by rw [o_nw_m hw (by decide)]; exact h48 i hi)
        have h22 : μ 16 22 = μ0 16 22 := (by rw [o_nw_m hw (by decide)]; exact h22)
        have hf1 := o_fr_nw18 hw (hF _ _ (Nat.le_refl _))
        have hst := o_St_fr hst hf1 (o_F_nw hw hF (Nat.le_refl _))
        have hf := o_fr_tr hf hf1
        refine oa_astB h rfl (hst.1 _ _ _ (by show _ ∧ _; omega)) (ch_kdn 0) hw.1 rfl (by omega) (by decide) dX12_begins_43 ?_
        intro S hr
        rw [← hr.1]
        have hO : o_R S μ (r_bgL w1 m (k + 1)) M := by
          have hr2 := o_R_rp (w' := up (up (r_bgL w1 m k) (210 + 91 * m + (11 + k)) (-1)) (210 + 91 * m + (19 + k)) (nI 0)) (S' := S) (μ' := μ) (m := m) (c := k) (N := 0) (id := F) hO (by omega) (by decide)
            (fun kd i z => by have z9 := hf1.2.2 kd i z; rw [hr.1, hr.2.1]; exact z9) (fun m' c' e => by rw [hr.2.2.2 _ _ _ _ (by omega), o_nw_r hw (by decide)]) (by rw [hr.2.1]; exact hw.1) (by rw [hr.2.2.1, hr.1]) (o_nw_m hw (by decide)) (by rw [up_s]) (fun t ht => by omega) (fun i h1 h2 => up_n h1)
          rw [r_bgL_s, up_sw (by omega)]; exact hr2
        have hf := o_fr_tr hf (o_fr_rf (μ := μ) hr (by omega))
        have hst := o_St_fr hst (o_fr_rf (μ := μ) hr (by omega)) (by rw [hr.2.1]; exact hst.2.2)
        refine ca_iinc h dX12_begins_44 rfl ik_1 rfl ?_
        rw [show nI k + 1 = nI (k + 1) from nI_1 _]
        refine ca_goto (tgt := 22) h dX12_begins_47 (by decide) ?_
        refine ca_pick [1, 2, 0] rfl ?_
        exact ih_22 (k + 1) (by omega) _ _ hst hO hf h48 h22
  refine ca_pick [1, 2, 0] rfl ?_
  refine loop_22 8 0 (by omega) S0 _ hst ?_ ?_ (fun i hi => ?_) ?_
  · show o_R S0 _ w1 M
    rw [hw1]; exact o_R_mob (o_R_mob (o_R_mob (o_R_mob hO (by decide)) (by decide)) (by decide)) (by decide)
  · exact o_fr_st (o_fr_st (o_fr_st (o_fr_st o_fr_0)))
  · rw [o_st_k (by decide), o_st_k (by decide), o_st_k (by decide), o_st_k (by decide)]
  · rw [o_st_k (by decide), o_st_k (by decide), o_st_k (by decide), o_st_k (by decide)]
