/-! THE REFERENCE'S CONSTRUCTOR -/
def NM (E : ch_E) (S : ch_S) (n : Nat) : Prop := ∀ i, i < n → S.2.2 16 31 0 i = some (E.2.2.2.1 (ch_nm i))
theorem NM_0 {E : ch_E} {S : ch_S} : NM E S 0 := fun i hi => absurd hi (Nat.not_lt_zero i)
theorem NM_ad {E : ch_E} {S : ch_S} {n k kd i q : Nat} (hne : ¬ (16 = k ∧ 31 = kd ∧ 0 = i)) (h : NM E S n) : NM E (s_ad S k kd i q) n := fun j hj => by rw [s_ad_r hne]; exact h j hj
theorem NM_rf {E : ch_E} {S : ch_S} {n k kd i j v : Nat} (hne : ¬ (16 = k ∧ 31 = kd ∧ 0 = i)) (h : NM E S n) : NM E (s_rf S k kd i j v) n := fun x hx => by
  show (if _ then some v else _) = _
  rw [if_neg (fun z => hne ⟨z.1, z.2.1, z.2.2.1⟩)]; exact h x hx
theorem NM_st {E : ch_E} {S : ch_S} {n : Nat} (h : NM E S n) : NM E (s_rf S 16 31 0 n (E.2.2.2.1 (ch_nm n))) (n + 1) := fun x hx => by
  show (if _ then some _ else _) = _
  by_cases e : x = n
  · subst e; rw [if_pos ⟨rfl, rfl, rfl, rfl⟩]
  · rw [if_neg (fun z => e z.2.2.2)]; exact h x (by omega)
theorem NP_rfx {S0 S : ch_S} {μ0 μ : ch_M} {D Z : Nat → Nat → Nat → Prop} {R : Nat → Nat → Nat → Nat → Prop} {k kd i j v : Nat} (h : NP S0 S μ0 μ D Z R) (hd : D k kd i) (hr : ch_rt k kd i j = none) : NP S0 (s_rf S k kd i j v) μ0 μ D Z R := by
  refine ⟨h.1, h.2.1, fun a b c z => ?_, h.2.2.2.1, fun a b c j' r' d z e => ?_⟩
  · have e2 : (s_rf S k kd i j v).2.2 a b c = S.2.2 a b c := by
      funext x
      unfold s_rf
      exact if_neg (fun y => by obtain ⟨rfl, rfl, rfl, -⟩ := y; exact z hd)
    rw [e2]; exact h.2.2.1 a b c z
  · have h5 := h.2.2.2.2 a b c j' r' d z e
    refine ⟨h5.1, ?_⟩
    show (if _ then some v else _) = some (S.1 _ _ _)
    rw [if_neg (fun g => by obtain ⟨rfl, rfl, rfl, rfl⟩ := g; rw [hr] at e; cases e)]; exact h5.2
section
variable {X : ch_X} {E : ch_E} {own : String} {cc : ByteArray} {nL : Nat} {S : ch_S} {μ : ch_M} {kc ks pc : Nat} {L : List (Nat × Value)} {st : List Value}
theorem ca_astoS (h : ch_H X E own cc nL) {k kd i t n a b : Nat} {x : Int32} (hk : ch_kd kd = .inr (t, 1, n)) (ht : t < 7) (hty : ch_ty t = .object "java/lang/String") (ha : a < ch_nS) (hv : S.2.1 k kd i) (eb : S.1 k kd i = b) (hin : vp_in x n) (hd : decode cc pc = .ok (.aastore, 1))
    (kk : ch_W X E nL (s_rf S k kd i x.toNatClampNeg (E.2.2.2.1 a)) μ kc ks (pc + 1) L st) : ch_W X E nL S μ kc ks pc L (.ref (E.2.2.2.1 a) :: .int x :: .ref b :: st) := by
  intro H locs ls hI hS hl'
  subst eb
  have hlt : x.toNatClampNeg < n := Nat.not_le.mp fun q => hin (Or.inr q)
  have h0 : ¬ x < 0 := fun q => hin (Or.inl q)
  have hcell := hI.1 k kd i hv
  rw [ch_ct_q hk] at hcell
  obtain ⟨cellV, g1, g2, g3⟩ := vk_recv h.2.2.2.2.1.2.2.2.1 ha hS
  have hr := (ch_typ h.2.2.2.2.1 ht).2
  rw [hty] at hr
  obtain ⟨kA, comp, k1, k2', k3, -⟩ := hr
  have hcomp : comp = cellV.cls := Option.some.inj (k3.symm.trans g3)
  subst hcomp
  obtain ⟨kC, hkC, -⟩ := Vm.findClass_spec g3
  refine W.aast h.1 h.2.1 hcell (fun q z => by cases z) (fun z => by cases z) k1 k2' rfl hkC ⟨h0, by show _ < (arrV _ _ _).slots.size; rw [arrV_size]; exact hlt⟩ g1 (fun q z => by rw [z] at g2; cases g2) hkC (va_asg _ _) rfl rfl hd fun H1 e z oq => ?_
  refine kk H1 _ ls (ch_I_rf hI hv ?_ oq) (hS.put z oq (hI.2.2.1 _ _ _ hv)) hl'
  rw [ch_ct_q hk]
  show H1[S.1 k kd i]? = some (vp_cell _ _)
  rw [e]
  rw [vp_cell_q, vp_cell_q, arrV_store]
  congr 2
  funext q
  by_cases hq : q = x.toNatClampNeg
  · subst hq
    simp [updV, s_rf, va_rf]
  · simp [updV, s_rf, hq]
end
/-- what the reference's constructor leaves -/
def c_PostM (E : ch_E) (S : ch_S) (μ : ch_M) : Option Value → ch_S → ch_M → Prop := fun v S' μ' => v = none ∧ NP S S' μ μ' (fun a b c => (a = 16 ∧ 22 ≤ b ∧ b ≤ 33 ∧ c = 0)) (fun _ b _ => ¬ b = 22 ∧ ¬ b = 23) NPR ∧ NM E S' 8 ∧ μ' 16 22 0 = up (fun _ => 0) 19 (-1) ∧ ∃ w, μ' 16 23 0 = r_clrW w
set_option maxHeartbeats 1000000 in
theorem c_X12_init {l : Launch} {E : ch_E} {S : ch_S} {μ : ch_M}  (hv : S.2.1 16 22 0) (hz : μ 16 22 0 = fun _ => 0) (hf : ∀ a b c, (a = 16 ∧ 22 ≤ b ∧ b ≤ 33 ∧ c = 0) → ¬ (a = 16 ∧ b = 22 ∧ c = 0) → ¬ S.2.1 a b c) : ch_C E l yX12_init cX12_init 1 (Option.none : Option Jvm.ClassFile.FieldType) 3 11 21956 S μ [.ref (S.1 16 22 0)] (c_PostM E S μ) := by
  refine ch_enter rfl rfl ?_
  intro X hl0 h hG hR hnm
  have h : ch_H X E RX12 cX12_init 1 := h
  have hb : ∀ {S' : ch_S}, S'.2.1 16 22 0 → ch_bs X E S' := fun z => Or.inr ⟨_, _, _, z⟩
  show ch_W X E 1 S μ 0 0 0 [(0, .ref (S.1 16 22 0))] []
  have np := NP_00 (μ := μ) hv
  obtain ⟨b0, e_b0⟩ : ∃ z, S.1 16 22 0 = z := ⟨_, rfl⟩
  rw [e_b0]
  have z_b0 := hz
  refine ca_aload_nr h dX12_init_0 rfl ?_
  refine ca_objI h hG kw_1303 kw_33 kw_34 rfl rfl dX12_init_1 ?_
  refine ca_aload_nr h dX12_init_4 rfl ?_
  refine ca_sipush h dX12_init_5 sk_1302 ?_
  refine ca_newI h 16 23 0 hG (hb (NP_v np (by omega))) rfl kw_69 (by decide) (n := 1302) (by decide) rfl ⟨by omega, by omega⟩ dX12_init_8 ?_
  intro q23
  obtain ⟨np', mv⟩ := NP_newO (q := q23) np (hf 16 23 0 (by (first | omega | (unfold PN0; omega) | simp)) (by omega)) (by show ¬ ((16) = 16 ∧ (23) = 22 ∧ (0) = 0); omega) (by show ¬ ((16) = (16) + 1); omega) (by intro j; show ¬ ((16) = (16) + 1); omega)
  replace e_b0 := mv 16 22 0 _ (NP_v np ⟨rfl, rfl, rfl⟩) e_b0
  have e_q23 := s_ad_s S 16 23 0 q23
  clear np mv
  generalize s_ad S 16 23 0 q23 = S1 at np' e_b0 e_q23 ⊢
  replace z_b0 := (ch_z_n (μ := μ) (k := 16) (kd := 23) (i := 0) (show ¬ (16 = 16 ∧ 22 = 23 ∧ 0 = 0) by omega)).trans z_b0
  generalize hz_ : ch_z μ 16 23 0 = μ1 at np' z_b0 ⊢
  have z_q23 : μ1 16 23 0 = fun _ => 0 := by rw [← hz_]; exact ch_z_0 _ _ _ _
  clear hz_
  have np := np'
  clear np'
  refine ca_putR (ci := 12) (j := 0) (ty := tyX12 0) h rfl rfl li_X12 tyX12 tyX12_ok nmX12 rfl (NP_v np (Or.inl ⟨rfl, rfl, rfl⟩)) e_b0 (by decide) rfl kw_1317 rfl hnm rfl (tyX12_ok 0 (by decide)) rfl rfl dX12_init_10 ?_
  replace np := NP_rfA np (j := 0) (Or.inl ⟨rfl, rfl, rfl⟩) (r := (16, 23, 0)) rfl (NP_v np (Or.inr ⟨rfl, rfl, rfl⟩)) e_q23
  replace e_b0 : (s_rf S1 16 22 0 0 q23).1 16 22 0 = b0 := e_b0
  replace e_q23 : (s_rf S1 16 22 0 0 q23).1 16 23 0 = q23 := e_q23
  generalize s_rf S1 16 22 0 0 q23 = S2 at np e_b0 e_q23 ⊢
  refine ca_aload_nr h dX12_init_13 rfl ?_
  refine ca_sipush h dX12_init_14 sk_1302 ?_
  refine ca_newI h 16 24 0 hG (hb (NP_v np (by omega))) rfl kw_69 (by decide) (n := 1302) (by decide) rfl ⟨by omega, by omega⟩ dX12_init_17 ?_
  intro q24
  obtain ⟨np', mv⟩ := NP_newA (q := q24) np (hf 16 24 0 (by (first | omega | (unfold PN0; omega) | simp)) (by omega)) (by show ¬ (((16) = 16 ∧ (24) = 22 ∧ (0) = 0) ∨ ((16) = 16 ∧ (24) = 23 ∧ (0) = 0)); omega) rfl (by intro j; show ¬ (((16) = (16) + 1) ∨ ((16) = 16 ∧ (24) = 22 ∧ (0) = 0 ∧ (j) = 0)); omega)
  replace e_b0 := mv 16 22 0 _ (NP_v np (Or.inl ⟨rfl, rfl, rfl⟩)) e_b0
  replace e_q23 := mv 16 23 0 _ (NP_v np (Or.inr ⟨rfl, rfl, rfl⟩)) e_q23
  have e_q24 := s_ad_s S2 16 24 0 q24
  clear np mv
  generalize s_ad S2 16 24 0 q24 = S3 at np' e_b0 e_q23 e_q24 ⊢
  replace z_b0 := (ch_z_n (μ := μ1) (k := 16) (kd := 24) (i := 0) (show ¬ (16 = 16 ∧ 22 = 24 ∧ 0 = 0) by omega)).trans z_b0
  generalize hz_ : ch_z μ1 16 24 0 = μ3 at np' z_b0 ⊢
  have z_q24 : μ3 16 24 0 = fun _ => 0 := by rw [← hz_]; exact ch_z_0 _ _ _ _
  clear hz_
  have np := np'
  clear np'
  refine ca_putR (ci := 12) (j := 1) (ty := tyX12 1) h rfl rfl li_X12 tyX12 tyX12_ok nmX12 rfl (NP_v np (Or.inl (Or.inl ⟨rfl, rfl, rfl⟩))) e_b0 (by decide) rfl kw_1318 rfl hnm rfl (tyX12_ok 1 (by decide)) rfl rfl dX12_init_19 ?_
  replace np := NP_rfA np (j := 1) (Or.inl (Or.inl ⟨rfl, rfl, rfl⟩)) (r := (16, 24, 0)) rfl (NP_v np (Or.inr ⟨rfl, rfl, rfl⟩)) e_q24
  replace e_b0 : (s_rf S3 16 22 0 1 q24).1 16 22 0 = b0 := e_b0
  replace e_q23 : (s_rf S3 16 22 0 1 q24).1 16 23 0 = q23 := e_q23
  replace e_q24 : (s_rf S3 16 22 0 1 q24).1 16 24 0 = q24 := e_q24
  generalize s_rf S3 16 22 0 1 q24 = S4 at np e_b0 e_q23 e_q24 ⊢
  refine ca_aload_nr h dX12_init_22 rfl ?_
  refine ca_sipush h dX12_init_23 sk_1302 ?_
  refine ca_newI h 16 25 0 hG (hb (NP_v np (by omega))) rfl kw_69 (by decide) (n := 1302) (by decide) rfl ⟨by omega, by omega⟩ dX12_init_26 ?_
  intro q25
  obtain ⟨np', mv⟩ := NP_newA (q := q25) np (hf 16 25 0 (by (first | omega | (unfold PN0; omega) | simp)) (by omega)) (by show ¬ ((((16) = 16 ∧ (25) = 22 ∧ (0) = 0) ∨ ((16) = 16 ∧ (25) = 23 ∧ (0) = 0)) ∨ ((16) = 16 ∧ (25) = 24 ∧ (0) = 0)); omega) rfl (by intro j; show ¬ ((((16) = (16) + 1) ∨ ((16) = 16 ∧ (25) = 22 ∧ (0) = 0 ∧ (j) = 0)) ∨ ((16) = 16 ∧ (25) = 22 ∧ (0) = 0 ∧ (j) = 1)); omega)
  replace e_b0 := mv 16 22 0 _ (NP_v np (Or.inl (Or.inl ⟨rfl, rfl, rfl⟩))) e_b0
  replace e_q23 := mv 16 23 0 _ (NP_v np (Or.inl (Or.inr ⟨rfl, rfl, rfl⟩))) e_q23
  replace e_q24 := mv 16 24 0 _ (NP_v np (Or.inr ⟨rfl, rfl, rfl⟩)) e_q24
  have e_q25 := s_ad_s S4 16 25 0 q25
  clear np mv
  generalize s_ad S4 16 25 0 q25 = S5 at np' e_b0 e_q23 e_q24 e_q25 ⊢
  replace z_b0 := (ch_z_n (μ := μ3) (k := 16) (kd := 25) (i := 0) (show ¬ (16 = 16 ∧ 22 = 25 ∧ 0 = 0) by omega)).trans z_b0
  generalize hz_ : ch_z μ3 16 25 0 = μ5 at np' z_b0 ⊢
  have z_q25 : μ5 16 25 0 = fun _ => 0 := by rw [← hz_]; exact ch_z_0 _ _ _ _
  clear hz_
  have np := np'
  clear np'
  refine ca_putR (ci := 12) (j := 2) (ty := tyX12 2) h rfl rfl li_X12 tyX12 tyX12_ok nmX12 rfl (NP_v np (Or.inl (Or.inl (Or.inl ⟨rfl, rfl, rfl⟩)))) e_b0 (by decide) rfl kw_1319 rfl hnm rfl (tyX12_ok 2 (by decide)) rfl rfl dX12_init_28 ?_
  replace np := NP_rfA np (j := 2) (Or.inl (Or.inl (Or.inl ⟨rfl, rfl, rfl⟩))) (r := (16, 25, 0)) rfl (NP_v np (Or.inr ⟨rfl, rfl, rfl⟩)) e_q25
  replace e_b0 : (s_rf S5 16 22 0 2 q25).1 16 22 0 = b0 := e_b0
  replace e_q23 : (s_rf S5 16 22 0 2 q25).1 16 23 0 = q23 := e_q23
  replace e_q24 : (s_rf S5 16 22 0 2 q25).1 16 24 0 = q24 := e_q24
  replace e_q25 : (s_rf S5 16 22 0 2 q25).1 16 25 0 = q25 := e_q25
  generalize s_rf S5 16 22 0 2 q25 = S6 at np e_b0 e_q23 e_q24 e_q25 ⊢
  refine ca_aload_nr h dX12_init_31 rfl ?_
  refine ca_sipush h dX12_init_32 sk_1302 ?_
  refine ca_newI h 16 26 0 hG (hb (NP_v np (by omega))) rfl kw_69 (by decide) (n := 1302) (by decide) rfl ⟨by omega, by omega⟩ dX12_init_35 ?_
  intro q26
  obtain ⟨np', mv⟩ := NP_newA (q := q26) np (hf 16 26 0 (by (first | omega | (unfold PN0; omega) | simp)) (by omega)) (by show ¬ (((((16) = 16 ∧ (26) = 22 ∧ (0) = 0) ∨ ((16) = 16 ∧ (26) = 23 ∧ (0) = 0)) ∨ ((16) = 16 ∧ (26) = 24 ∧ (0) = 0)) ∨ ((16) = 16 ∧ (26) = 25 ∧ (0) = 0)); omega) rfl (by intro j; show ¬ (((((16) = (16) + 1) ∨ ((16) = 16 ∧ (26) = 22 ∧ (0) = 0 ∧ (j) = 0)) ∨ ((16) = 16 ∧ (26) = 22 ∧ (0) = 0 ∧ (j) = 1)) ∨ ((16) = 16 ∧ (26) = 22 ∧ (0) = 0 ∧ (j) = 2)); omega)
  replace e_b0 := mv 16 22 0 _ (NP_v np (Or.inl (Or.inl (Or.inl ⟨rfl, rfl, rfl⟩)))) e_b0
  replace e_q23 := mv 16 23 0 _ (NP_v np (Or.inl (Or.inl (Or.inr ⟨rfl, rfl, rfl⟩)))) e_q23
  replace e_q24 := mv 16 24 0 _ (NP_v np (Or.inl (Or.inr ⟨rfl, rfl, rfl⟩))) e_q24
  replace e_q25 := mv 16 25 0 _ (NP_v np (Or.inr ⟨rfl, rfl, rfl⟩)) e_q25
  have e_q26 := s_ad_s S6 16 26 0 q26
  clear np mv
  generalize s_ad S6 16 26 0 q26 = S7 at np' e_b0 e_q23 e_q24 e_q25 e_q26 ⊢
  replace z_b0 := (ch_z_n (μ := μ5) (k := 16) (kd := 26) (i := 0) (show ¬ (16 = 16 ∧ 22 = 26 ∧ 0 = 0) by omega)).trans z_b0
  generalize hz_ : ch_z μ5 16 26 0 = μ7 at np' z_b0 ⊢
  have z_q26 : μ7 16 26 0 = fun _ => 0 := by rw [← hz_]; exact ch_z_0 _ _ _ _
  clear hz_
  have np := np'
  clear np'
  refine ca_putR (ci := 12) (j := 3) (ty := tyX12 3) h rfl rfl li_X12 tyX12 tyX12_ok nmX12 rfl (NP_v np (Or.inl (Or.inl (Or.inl (Or.inl ⟨rfl, rfl, rfl⟩))))) e_b0 (by decide) rfl kw_1320 rfl hnm rfl (tyX12_ok 3 (by decide)) rfl rfl dX12_init_37 ?_
  replace np := NP_rfA np (j := 3) (Or.inl (Or.inl (Or.inl (Or.inl ⟨rfl, rfl, rfl⟩)))) (r := (16, 26, 0)) rfl (NP_v np (Or.inr ⟨rfl, rfl, rfl⟩)) e_q26
  replace e_b0 : (s_rf S7 16 22 0 3 q26).1 16 22 0 = b0 := e_b0
  replace e_q23 : (s_rf S7 16 22 0 3 q26).1 16 23 0 = q23 := e_q23
  replace e_q24 : (s_rf S7 16 22 0 3 q26).1 16 24 0 = q24 := e_q24
  replace e_q25 : (s_rf S7 16 22 0 3 q26).1 16 25 0 = q25 := e_q25
  replace e_q26 : (s_rf S7 16 22 0 3 q26).1 16 26 0 = q26 := e_q26
  generalize s_rf S7 16 22 0 3 q26 = S8 at np e_b0 e_q23 e_q24 e_q25 e_q26 ⊢
  refine ca_aload_nr h dX12_init_40 rfl ?_
  refine ca_sipush h dX12_init_41 sk_15624 ?_
  refine ca_newI h 16 27 0 hG (hb (NP_v np (by omega))) rfl kw_69 (by decide) (n := 15624) (by decide) rfl ⟨by omega, by omega⟩ dX12_init_44 ?_
  intro q27
  obtain ⟨np', mv⟩ := NP_newA (q := q27) np (hf 16 27 0 (by (first | omega | (unfold PN0; omega) | simp)) (by omega)) (by show ¬ ((((((16) = 16 ∧ (27) = 22 ∧ (0) = 0) ∨ ((16) = 16 ∧ (27) = 23 ∧ (0) = 0)) ∨ ((16) = 16 ∧ (27) = 24 ∧ (0) = 0)) ∨ ((16) = 16 ∧ (27) = 25 ∧ (0) = 0)) ∨ ((16) = 16 ∧ (27) = 26 ∧ (0) = 0)); omega) rfl (by intro j; show ¬ ((((((16) = (16) + 1) ∨ ((16) = 16 ∧ (27) = 22 ∧ (0) = 0 ∧ (j) = 0)) ∨ ((16) = 16 ∧ (27) = 22 ∧ (0) = 0 ∧ (j) = 1)) ∨ ((16) = 16 ∧ (27) = 22 ∧ (0) = 0 ∧ (j) = 2)) ∨ ((16) = 16 ∧ (27) = 22 ∧ (0) = 0 ∧ (j) = 3)); omega)
  replace e_b0 := mv 16 22 0 _ (NP_v np (Or.inl (Or.inl (Or.inl (Or.inl ⟨rfl, rfl, rfl⟩))))) e_b0
  replace e_q23 := mv 16 23 0 _ (NP_v np (Or.inl (Or.inl (Or.inl (Or.inr ⟨rfl, rfl, rfl⟩))))) e_q23
  replace e_q24 := mv 16 24 0 _ (NP_v np (Or.inl (Or.inl (Or.inr ⟨rfl, rfl, rfl⟩)))) e_q24
  replace e_q25 := mv 16 25 0 _ (NP_v np (Or.inl (Or.inr ⟨rfl, rfl, rfl⟩))) e_q25
  replace e_q26 := mv 16 26 0 _ (NP_v np (Or.inr ⟨rfl, rfl, rfl⟩)) e_q26
  have e_q27 := s_ad_s S8 16 27 0 q27
  clear np mv
  generalize s_ad S8 16 27 0 q27 = S9 at np' e_b0 e_q23 e_q24 e_q25 e_q26 e_q27 ⊢
  replace z_b0 := (ch_z_n (μ := μ7) (k := 16) (kd := 27) (i := 0) (show ¬ (16 = 16 ∧ 22 = 27 ∧ 0 = 0) by omega)).trans z_b0
  generalize hz_ : ch_z μ7 16 27 0 = μ9 at np' z_b0 ⊢
  have z_q27 : μ9 16 27 0 = fun _ => 0 := by rw [← hz_]; exact ch_z_0 _ _ _ _
  clear hz_
  have np := np'
  clear np'
  refine ca_putR (ci := 12) (j := 4) (ty := tyX12 4) h rfl rfl li_X12 tyX12 tyX12_ok nmX12 rfl (NP_v np (Or.inl (Or.inl (Or.inl (Or.inl (Or.inl ⟨rfl, rfl, rfl⟩)))))) e_b0 (by decide) rfl kw_1321 rfl hnm rfl (tyX12_ok 4 (by decide)) rfl rfl dX12_init_46 ?_
  replace np := NP_rfA np (j := 4) (Or.inl (Or.inl (Or.inl (Or.inl (Or.inl ⟨rfl, rfl, rfl⟩))))) (r := (16, 27, 0)) rfl (NP_v np (Or.inr ⟨rfl, rfl, rfl⟩)) e_q27
  replace e_b0 : (s_rf S9 16 22 0 4 q27).1 16 22 0 = b0 := e_b0
  replace e_q23 : (s_rf S9 16 22 0 4 q27).1 16 23 0 = q23 := e_q23
  replace e_q24 : (s_rf S9 16 22 0 4 q27).1 16 24 0 = q24 := e_q24
  replace e_q25 : (s_rf S9 16 22 0 4 q27).1 16 25 0 = q25 := e_q25
  replace e_q26 : (s_rf S9 16 22 0 4 q27).1 16 26 0 = q26 := e_q26
  replace e_q27 : (s_rf S9 16 22 0 4 q27).1 16 27 0 = q27 := e_q27
  generalize s_rf S9 16 22 0 4 q27 = S10 at np e_b0 e_q23 e_q24 e_q25 e_q26 e_q27 ⊢
  refine ca_aload_nr h dX12_init_49 rfl ?_
  refine ca_bipush h dX12_init_50 bk_8 ?_
  refine ca_newI h 16 28 0 hG (hb (NP_v np (by omega))) rfl kw_69 (by decide) (n := 8) (by decide) rfl ⟨by omega, by omega⟩ dX12_init_52 ?_
  intro q28
  obtain ⟨np', mv⟩ := NP_newA (q := q28) np (hf 16 28 0 (by (first | omega | (unfold PN0; omega) | simp)) (by omega)) (by show ¬ (((((((16) = 16 ∧ (28) = 22 ∧ (0) = 0) ∨ ((16) = 16 ∧ (28) = 23 ∧ (0) = 0)) ∨ ((16) = 16 ∧ (28) = 24 ∧ (0) = 0)) ∨ ((16) = 16 ∧ (28) = 25 ∧ (0) = 0)) ∨ ((16) = 16 ∧ (28) = 26 ∧ (0) = 0)) ∨ ((16) = 16 ∧ (28) = 27 ∧ (0) = 0)); omega) rfl (by intro j; show ¬ (((((((16) = (16) + 1) ∨ ((16) = 16 ∧ (28) = 22 ∧ (0) = 0 ∧ (j) = 0)) ∨ ((16) = 16 ∧ (28) = 22 ∧ (0) = 0 ∧ (j) = 1)) ∨ ((16) = 16 ∧ (28) = 22 ∧ (0) = 0 ∧ (j) = 2)) ∨ ((16) = 16 ∧ (28) = 22 ∧ (0) = 0 ∧ (j) = 3)) ∨ ((16) = 16 ∧ (28) = 22 ∧ (0) = 0 ∧ (j) = 4)); omega)
  replace e_b0 := mv 16 22 0 _ (NP_v np (Or.inl (Or.inl (Or.inl (Or.inl (Or.inl ⟨rfl, rfl, rfl⟩)))))) e_b0
  replace e_q23 := mv 16 23 0 _ (NP_v np (Or.inl (Or.inl (Or.inl (Or.inl (Or.inr ⟨rfl, rfl, rfl⟩)))))) e_q23
  replace e_q24 := mv 16 24 0 _ (NP_v np (Or.inl (Or.inl (Or.inl (Or.inr ⟨rfl, rfl, rfl⟩))))) e_q24
  replace e_q25 := mv 16 25 0 _ (NP_v np (Or.inl (Or.inl (Or.inr ⟨rfl, rfl, rfl⟩)))) e_q25
  replace e_q26 := mv 16 26 0 _ (NP_v np (Or.inl (Or.inr ⟨rfl, rfl, rfl⟩))) e_q26
  replace e_q27 := mv 16 27 0 _ (NP_v np (Or.inr ⟨rfl, rfl, rfl⟩)) e_q27
  have e_q28 := s_ad_s S10 16 28 0 q28
  clear np mv
  generalize s_ad S10 16 28 0 q28 = S11 at np' e_b0 e_q23 e_q24 e_q25 e_q26 e_q27 e_q28 ⊢
  replace z_b0 := (ch_z_n (μ := μ9) (k := 16) (kd := 28) (i := 0) (show ¬ (16 = 16 ∧ 22 = 28 ∧ 0 = 0) by omega)).trans z_b0
  generalize hz_ : ch_z μ9 16 28 0 = μ11 at np' z_b0 ⊢
  have z_q28 : μ11 16 28 0 = fun _ => 0 := by rw [← hz_]; exact ch_z_0 _ _ _ _
  clear hz_
  have np := np'
  clear np'
  refine ca_putR (ci := 12) (j := 8) (ty := tyX12 8) h rfl rfl li_X12 tyX12 tyX12_ok nmX12 rfl (NP_v np (Or.inl (Or.inl (Or.inl (Or.inl (Or.inl (Or.inl ⟨rfl, rfl, rfl⟩))))))) e_b0 (by decide) rfl kw_1325 rfl hnm rfl (tyX12_ok 8 (by decide)) rfl rfl dX12_init_54 ?_
  replace np := NP_rfA np (j := 8) (Or.inl (Or.inl (Or.inl (Or.inl (Or.inl (Or.inl ⟨rfl, rfl, rfl⟩)))))) (r := (16, 28, 0)) rfl (NP_v np (Or.inr ⟨rfl, rfl, rfl⟩)) e_q28
  replace e_b0 : (s_rf S11 16 22 0 8 q28).1 16 22 0 = b0 := e_b0
  replace e_q23 : (s_rf S11 16 22 0 8 q28).1 16 23 0 = q23 := e_q23
  replace e_q24 : (s_rf S11 16 22 0 8 q28).1 16 24 0 = q24 := e_q24
  replace e_q25 : (s_rf S11 16 22 0 8 q28).1 16 25 0 = q25 := e_q25
  replace e_q26 : (s_rf S11 16 22 0 8 q28).1 16 26 0 = q26 := e_q26
  replace e_q27 : (s_rf S11 16 22 0 8 q28).1 16 27 0 = q27 := e_q27
  replace e_q28 : (s_rf S11 16 22 0 8 q28).1 16 28 0 = q28 := e_q28
  generalize s_rf S11 16 22 0 8 q28 = S12 at np e_b0 e_q23 e_q24 e_q25 e_q26 e_q27 e_q28 ⊢
  refine ca_aload_nr h dX12_init_57 rfl ?_
  refine ca_bipush h dX12_init_58 bk_8 ?_
  refine ca_newI h 16 29 0 hG (hb (NP_v np (by omega))) rfl kw_69 (by decide) (n := 8) (by decide) rfl ⟨by omega, by omega⟩ dX12_init_60 ?_
  intro q29
  obtain ⟨np', mv⟩ := NP_newA (q := q29) np (hf 16 29 0 (by (first | omega | (unfold PN0; omega) | simp)) (by omega)) (by show ¬ ((((((((16) = 16 ∧ (29) = 22 ∧ (0) = 0) ∨ ((16) = 16 ∧ (29) = 23 ∧ (0) = 0)) ∨ ((16) = 16 ∧ (29) = 24 ∧ (0) = 0)) ∨ ((16) = 16 ∧ (29) = 25 ∧ (0) = 0)) ∨ ((16) = 16 ∧ (29) = 26 ∧ (0) = 0)) ∨ ((16) = 16 ∧ (29) = 27 ∧ (0) = 0)) ∨ ((16) = 16 ∧ (29) = 28 ∧ (0) = 0)); omega) rfl (by intro j; show ¬ ((((((((16) = (16) + 1) ∨ ((16) = 16 ∧ (29) = 22 ∧ (0) = 0 ∧ (j) = 0)) ∨ ((16) = 16 ∧ (29) = 22 ∧ (0) = 0 ∧ (j) = 1)) ∨ ((16) = 16 ∧ (29) = 22 ∧ (0) = 0 ∧ (j) = 2)) ∨ ((16) = 16 ∧ (29) = 22 ∧ (0) = 0 ∧ (j) = 3)) ∨ ((16) = 16 ∧ (29) = 22 ∧ (0) = 0 ∧ (j) = 4)) ∨ ((16) = 16 ∧ (29) = 22 ∧ (0) = 0 ∧ (j) = 8)); omega)
  replace e_b0 := mv 16 22 0 _ (NP_v np (Or.inl (Or.inl (Or.inl (Or.inl (Or.inl (Or.inl ⟨rfl, rfl, rfl⟩))))))) e_b0
  replace e_q23 := mv 16 23 0 _ (NP_v np (Or.inl (Or.inl (Or.inl (Or.inl (Or.inl (Or.inr ⟨rfl, rfl, rfl⟩))))))) e_q23
  replace e_q24 := mv 16 24 0 _ (NP_v np (Or.inl (Or.inl (Or.inl (Or.inl (Or.inr ⟨rfl, rfl, rfl⟩)))))) e_q24
  replace e_q25 := mv 16 25 0 _ (NP_v np (Or.inl (Or.inl (Or.inl (Or.inr ⟨rfl, rfl, rfl⟩))))) e_q25
  replace e_q26 := mv 16 26 0 _ (NP_v np (Or.inl (Or.inl (Or.inr ⟨rfl, rfl, rfl⟩)))) e_q26
  replace e_q27 := mv 16 27 0 _ (NP_v np (Or.inl (Or.inr ⟨rfl, rfl, rfl⟩))) e_q27
  replace e_q28 := mv 16 28 0 _ (NP_v np (Or.inr ⟨rfl, rfl, rfl⟩)) e_q28
  have e_q29 := s_ad_s S12 16 29 0 q29
  clear np mv
  generalize s_ad S12 16 29 0 q29 = S13 at np' e_b0 e_q23 e_q24 e_q25 e_q26 e_q27 e_q28 e_q29 ⊢
  replace z_b0 := (ch_z_n (μ := μ11) (k := 16) (kd := 29) (i := 0) (show ¬ (16 = 16 ∧ 22 = 29 ∧ 0 = 0) by omega)).trans z_b0
  generalize hz_ : ch_z μ11 16 29 0 = μ13 at np' z_b0 ⊢
  have z_q29 : μ13 16 29 0 = fun _ => 0 := by rw [← hz_]; exact ch_z_0 _ _ _ _
  clear hz_
  have np := np'
  clear np'
  refine ca_putR (ci := 12) (j := 9) (ty := tyX12 9) h rfl rfl li_X12 tyX12 tyX12_ok nmX12 rfl (NP_v np (Or.inl (Or.inl (Or.inl (Or.inl (Or.inl (Or.inl (Or.inl ⟨rfl, rfl, rfl⟩)))))))) e_b0 (by decide) rfl kw_1326 rfl hnm rfl (tyX12_ok 9 (by decide)) rfl rfl dX12_init_62 ?_
  replace np := NP_rfA np (j := 9) (Or.inl (Or.inl (Or.inl (Or.inl (Or.inl (Or.inl (Or.inl ⟨rfl, rfl, rfl⟩))))))) (r := (16, 29, 0)) rfl (NP_v np (Or.inr ⟨rfl, rfl, rfl⟩)) e_q29
  replace e_b0 : (s_rf S13 16 22 0 9 q29).1 16 22 0 = b0 := e_b0
  replace e_q23 : (s_rf S13 16 22 0 9 q29).1 16 23 0 = q23 := e_q23
  replace e_q24 : (s_rf S13 16 22 0 9 q29).1 16 24 0 = q24 := e_q24
  replace e_q25 : (s_rf S13 16 22 0 9 q29).1 16 25 0 = q25 := e_q25
  replace e_q26 : (s_rf S13 16 22 0 9 q29).1 16 26 0 = q26 := e_q26
  replace e_q27 : (s_rf S13 16 22 0 9 q29).1 16 27 0 = q27 := e_q27
  replace e_q28 : (s_rf S13 16 22 0 9 q29).1 16 28 0 = q28 := e_q28
  replace e_q29 : (s_rf S13 16 22 0 9 q29).1 16 29 0 = q29 := e_q29
  generalize s_rf S13 16 22 0 9 q29 = S14 at np e_b0 e_q23 e_q24 e_q25 e_q26 e_q27 e_q28 e_q29 ⊢
  refine ca_aload_nr h dX12_init_65 rfl ?_
  refine ca_sipush h dX12_init_66 sk_700 ?_
  refine ca_newI h 16 30 0 hG (hb (NP_v np (by omega))) rfl kw_69 (by decide) (n := 700) (by decide) rfl ⟨by omega, by omega⟩ dX12_init_69 ?_
  intro q30
  obtain ⟨np', mv⟩ := NP_newA (q := q30) np (hf 16 30 0 (by (first | omega | (unfold PN0; omega) | simp)) (by omega)) (by show ¬ (((((((((16) = 16 ∧ (30) = 22 ∧ (0) = 0) ∨ ((16) = 16 ∧ (30) = 23 ∧ (0) = 0)) ∨ ((16) = 16 ∧ (30) = 24 ∧ (0) = 0)) ∨ ((16) = 16 ∧ (30) = 25 ∧ (0) = 0)) ∨ ((16) = 16 ∧ (30) = 26 ∧ (0) = 0)) ∨ ((16) = 16 ∧ (30) = 27 ∧ (0) = 0)) ∨ ((16) = 16 ∧ (30) = 28 ∧ (0) = 0)) ∨ ((16) = 16 ∧ (30) = 29 ∧ (0) = 0)); omega) rfl (by intro j; show ¬ (((((((((16) = (16) + 1) ∨ ((16) = 16 ∧ (30) = 22 ∧ (0) = 0 ∧ (j) = 0)) ∨ ((16) = 16 ∧ (30) = 22 ∧ (0) = 0 ∧ (j) = 1)) ∨ ((16) = 16 ∧ (30) = 22 ∧ (0) = 0 ∧ (j) = 2)) ∨ ((16) = 16 ∧ (30) = 22 ∧ (0) = 0 ∧ (j) = 3)) ∨ ((16) = 16 ∧ (30) = 22 ∧ (0) = 0 ∧ (j) = 4)) ∨ ((16) = 16 ∧ (30) = 22 ∧ (0) = 0 ∧ (j) = 8)) ∨ ((16) = 16 ∧ (30) = 22 ∧ (0) = 0 ∧ (j) = 9)); omega)
  replace e_b0 := mv 16 22 0 _ (NP_v np (Or.inl (Or.inl (Or.inl (Or.inl (Or.inl (Or.inl (Or.inl ⟨rfl, rfl, rfl⟩)))))))) e_b0
  replace e_q23 := mv 16 23 0 _ (NP_v np (Or.inl (Or.inl (Or.inl (Or.inl (Or.inl (Or.inl (Or.inr ⟨rfl, rfl, rfl⟩)))))))) e_q23
  replace e_q24 := mv 16 24 0 _ (NP_v np (Or.inl (Or.inl (Or.inl (Or.inl (Or.inl (Or.inr ⟨rfl, rfl, rfl⟩))))))) e_q24
  replace e_q25 := mv 16 25 0 _ (NP_v np (Or.inl (Or.inl (Or.inl (Or.inl (Or.inr ⟨rfl, rfl, rfl⟩)))))) e_q25
  replace e_q26 := mv 16 26 0 _ (NP_v np (Or.inl (Or.inl (Or.inl (Or.inr ⟨rfl, rfl, rfl⟩))))) e_q26
  replace e_q27 := mv 16 27 0 _ (NP_v np (Or.inl (Or.inl (Or.inr ⟨rfl, rfl, rfl⟩)))) e_q27
  replace e_q28 := mv 16 28 0 _ (NP_v np (Or.inl (Or.inr ⟨rfl, rfl, rfl⟩))) e_q28
  replace e_q29 := mv 16 29 0 _ (NP_v np (Or.inr ⟨rfl, rfl, rfl⟩)) e_q29
  have e_q30 := s_ad_s S14 16 30 0 q30
  clear np mv
  generalize s_ad S14 16 30 0 q30 = S15 at np' e_b0 e_q23 e_q24 e_q25 e_q26 e_q27 e_q28 e_q29 e_q30 ⊢
  replace z_b0 := (ch_z_n (μ := μ13) (k := 16) (kd := 30) (i := 0) (show ¬ (16 = 16 ∧ 22 = 30 ∧ 0 = 0) by omega)).trans z_b0
  generalize hz_ : ch_z μ13 16 30 0 = μ15 at np' z_b0 ⊢
  have z_q30 : μ15 16 30 0 = fun _ => 0 := by rw [← hz_]; exact ch_z_0 _ _ _ _
  clear hz_
  have np := np'
  clear np'
  refine ca_putR (ci := 12) (j := 11) (ty := tyX12 11) h rfl rfl li_X12 tyX12 tyX12_ok nmX12 rfl (NP_v np (Or.inl (Or.inl (Or.inl (Or.inl (Or.inl (Or.inl (Or.inl (Or.inl ⟨rfl, rfl, rfl⟩))))))))) e_b0 (by decide) rfl kw_1328 rfl hnm rfl (tyX12_ok 11 (by decide)) rfl rfl dX12_init_71 ?_
  replace np := NP_rfA np (j := 11) (Or.inl (Or.inl (Or.inl (Or.inl (Or.inl (Or.inl (Or.inl (Or.inl ⟨rfl, rfl, rfl⟩)))))))) (r := (16, 30, 0)) rfl (NP_v np (Or.inr ⟨rfl, rfl, rfl⟩)) e_q30
  replace e_b0 : (s_rf S15 16 22 0 11 q30).1 16 22 0 = b0 := e_b0
  replace e_q23 : (s_rf S15 16 22 0 11 q30).1 16 23 0 = q23 := e_q23
  replace e_q24 : (s_rf S15 16 22 0 11 q30).1 16 24 0 = q24 := e_q24
  replace e_q25 : (s_rf S15 16 22 0 11 q30).1 16 25 0 = q25 := e_q25
  replace e_q26 : (s_rf S15 16 22 0 11 q30).1 16 26 0 = q26 := e_q26
  replace e_q27 : (s_rf S15 16 22 0 11 q30).1 16 27 0 = q27 := e_q27
  replace e_q28 : (s_rf S15 16 22 0 11 q30).1 16 28 0 = q28 := e_q28
  replace e_q29 : (s_rf S15 16 22 0 11 q30).1 16 29 0 = q29 := e_q29
  replace e_q30 : (s_rf S15 16 22 0 11 q30).1 16 30 0 = q30 := e_q30
  generalize s_rf S15 16 22 0 11 q30 = S16 at np e_b0 e_q23 e_q24 e_q25 e_q26 e_q27 e_q28 e_q29 e_q30 ⊢
  refine ca_aload_nr h dX12_init_74 rfl ?_
  refine ca_iconst h dX12_init_75 ik_m1 ?_
  refine ca_tR2 e_b0 ?_
  refine pi_X12_34 h (NP_v np (Or.inl (Or.inl (Or.inl (Or.inl (Or.inl (Or.inl (Or.inl (Or.inl ⟨rfl, rfl, rfl⟩))))))))) dX12_init_76 ?_
  replace z_b0 : ch_st μ15 16 22 0 19 (-1) 16 22 0 = _ := (ch_st_same _ _ _ _ _ _).trans (congrArg (fun z => up z 19 (-1)) z_b0)
  replace np := NP_memO (μ' := ch_st μ15 16 22 0 19 (-1)) np (Or.inl (Or.inl (Or.inl (Or.inl (Or.inl (Or.inl (Or.inl (Or.inl ⟨rfl, rfl, rfl⟩)))))))) (by show ¬ (((((((((16) = (16) + 1) ∨ ((16) = 16 ∧ (22) = 24 ∧ (0) = 0)) ∨ ((16) = 16 ∧ (22) = 25 ∧ (0) = 0)) ∨ ((16) = 16 ∧ (22) = 26 ∧ (0) = 0)) ∨ ((16) = 16 ∧ (22) = 27 ∧ (0) = 0)) ∨ ((16) = 16 ∧ (22) = 28 ∧ (0) = 0)) ∨ ((16) = 16 ∧ (22) = 29 ∧ (0) = 0)) ∨ ((16) = 16 ∧ (22) = 30 ∧ (0) = 0)); omega) (fun a b c e => ch_st_ne e)
  generalize ch_st μ15 16 22 0 19 (-1) = μ17 at np z_b0 ⊢
  refine ca_aload_nr h dX12_init_79 rfl ?_
  refine ca_bipush h dX12_init_80 bk_8 ?_
  refine ca_newQ h 16 31 0 hG (hb (NP_v np (by omega))) rfl (t := 5) (by decide) rfl kw_1304 (List.mem_of_getElem? (i := 4) rfl) (by decide) (n := 8) (by decide) rfl ⟨by omega, by omega⟩ dX12_init_82 ?_
  intro q31
  obtain ⟨np', mv⟩ := NP_newA (q := q31) np (hf 16 31 0 (by (first | omega | (unfold PN0; omega) | simp)) (by omega)) (by show ¬ ((((((((((16) = 16 ∧ (31) = 22 ∧ (0) = 0) ∨ ((16) = 16 ∧ (31) = 23 ∧ (0) = 0)) ∨ ((16) = 16 ∧ (31) = 24 ∧ (0) = 0)) ∨ ((16) = 16 ∧ (31) = 25 ∧ (0) = 0)) ∨ ((16) = 16 ∧ (31) = 26 ∧ (0) = 0)) ∨ ((16) = 16 ∧ (31) = 27 ∧ (0) = 0)) ∨ ((16) = 16 ∧ (31) = 28 ∧ (0) = 0)) ∨ ((16) = 16 ∧ (31) = 29 ∧ (0) = 0)) ∨ ((16) = 16 ∧ (31) = 30 ∧ (0) = 0)); omega) rfl (by intro j; show ¬ ((((((((((16) = (16) + 1) ∨ ((16) = 16 ∧ (31) = 22 ∧ (0) = 0 ∧ (j) = 0)) ∨ ((16) = 16 ∧ (31) = 22 ∧ (0) = 0 ∧ (j) = 1)) ∨ ((16) = 16 ∧ (31) = 22 ∧ (0) = 0 ∧ (j) = 2)) ∨ ((16) = 16 ∧ (31) = 22 ∧ (0) = 0 ∧ (j) = 3)) ∨ ((16) = 16 ∧ (31) = 22 ∧ (0) = 0 ∧ (j) = 4)) ∨ ((16) = 16 ∧ (31) = 22 ∧ (0) = 0 ∧ (j) = 8)) ∨ ((16) = 16 ∧ (31) = 22 ∧ (0) = 0 ∧ (j) = 9)) ∨ ((16) = 16 ∧ (31) = 22 ∧ (0) = 0 ∧ (j) = 11)); omega)
  replace e_b0 := mv 16 22 0 _ (NP_v np (Or.inl (Or.inl (Or.inl (Or.inl (Or.inl (Or.inl (Or.inl (Or.inl ⟨rfl, rfl, rfl⟩))))))))) e_b0
  replace e_q23 := mv 16 23 0 _ (NP_v np (Or.inl (Or.inl (Or.inl (Or.inl (Or.inl (Or.inl (Or.inl (Or.inr ⟨rfl, rfl, rfl⟩))))))))) e_q23
  replace e_q24 := mv 16 24 0 _ (NP_v np (Or.inl (Or.inl (Or.inl (Or.inl (Or.inl (Or.inl (Or.inr ⟨rfl, rfl, rfl⟩)))))))) e_q24
  replace e_q25 := mv 16 25 0 _ (NP_v np (Or.inl (Or.inl (Or.inl (Or.inl (Or.inl (Or.inr ⟨rfl, rfl, rfl⟩))))))) e_q25
  replace e_q26 := mv 16 26 0 _ (NP_v np (Or.inl (Or.inl (Or.inl (Or.inl (Or.inr ⟨rfl, rfl, rfl⟩)))))) e_q26
  replace e_q27 := mv 16 27 0 _ (NP_v np (Or.inl (Or.inl (Or.inl (Or.inr ⟨rfl, rfl, rfl⟩))))) e_q27
  replace e_q28 := mv 16 28 0 _ (NP_v np (Or.inl (Or.inl (Or.inr ⟨rfl, rfl, rfl⟩)))) e_q28
  replace e_q29 := mv 16 29 0 _ (NP_v np (Or.inl (Or.inr ⟨rfl, rfl, rfl⟩))) e_q29
  replace e_q30 := mv 16 30 0 _ (NP_v np (Or.inr ⟨rfl, rfl, rfl⟩)) e_q30
  have e_q31 := s_ad_s S16 16 31 0 q31
  clear np mv
  generalize s_ad S16 16 31 0 q31 = S18 at np' e_b0 e_q23 e_q24 e_q25 e_q26 e_q27 e_q28 e_q29 e_q30 e_q31 ⊢
  replace z_b0 := (ch_z_n (μ := μ17) (k := 16) (kd := 31) (i := 0) (show ¬ (16 = 16 ∧ 22 = 31 ∧ 0 = 0) by omega)).trans z_b0
  generalize hz_ : ch_z μ17 16 31 0 = μ18 at np' z_b0 ⊢
  have z_q31 : μ18 16 31 0 = fun _ => 0 := by rw [← hz_]; exact ch_z_0 _ _ _ _
  clear hz_
  have np := np'
  clear np'
  refine ca_dup h dX12_init_85 rfl ?_
  refine ca_iconst h dX12_init_86 ik_0 ?_
  refine ca_ldcs h (i := 40) (List.mem_of_getElem? (i := 26) rfl) dX12_init_87 ?_
  refine ca_astoS h (k := 16) (kd := 31) (i := 0) (t := 5) (n := 8) (a := ch_nm 0) rfl (by decide) rfl (by decide) (NP_v np (Or.inr ⟨rfl, rfl, rfl⟩)) e_q31 (show vp_in (nI 0) 8 from vp_in_nI (by decide) (by decide)) dX12_init_89 ?_
  show ch_W _ _ _ (s_rf S18 16 31 0 0 (E.2.2.2.1 (ch_nm 0))) _ _ _ _ _ _
  replace np := NP_rfx np (j := 0) (v := E.2.2.2.1 (ch_nm 0)) (Or.inr ⟨rfl, rfl, rfl⟩) rfl
  have hN := NM_st (NM_0 (E := E) (S := S18))
  replace e_b0 : (s_rf S18 16 31 0 0 (E.2.2.2.1 (ch_nm 0))).1 16 22 0 = b0 := e_b0
  replace e_q23 : (s_rf S18 16 31 0 0 (E.2.2.2.1 (ch_nm 0))).1 16 23 0 = q23 := e_q23
  replace e_q24 : (s_rf S18 16 31 0 0 (E.2.2.2.1 (ch_nm 0))).1 16 24 0 = q24 := e_q24
  replace e_q25 : (s_rf S18 16 31 0 0 (E.2.2.2.1 (ch_nm 0))).1 16 25 0 = q25 := e_q25
  replace e_q26 : (s_rf S18 16 31 0 0 (E.2.2.2.1 (ch_nm 0))).1 16 26 0 = q26 := e_q26
  replace e_q27 : (s_rf S18 16 31 0 0 (E.2.2.2.1 (ch_nm 0))).1 16 27 0 = q27 := e_q27
  replace e_q28 : (s_rf S18 16 31 0 0 (E.2.2.2.1 (ch_nm 0))).1 16 28 0 = q28 := e_q28
  replace e_q29 : (s_rf S18 16 31 0 0 (E.2.2.2.1 (ch_nm 0))).1 16 29 0 = q29 := e_q29
  replace e_q30 : (s_rf S18 16 31 0 0 (E.2.2.2.1 (ch_nm 0))).1 16 30 0 = q30 := e_q30
  replace e_q31 : (s_rf S18 16 31 0 0 (E.2.2.2.1 (ch_nm 0))).1 16 31 0 = q31 := e_q31
  generalize s_rf S18 16 31 0 0 (E.2.2.2.1 (ch_nm 0)) = S19 at np hN e_b0 e_q23 e_q24 e_q25 e_q26 e_q27 e_q28 e_q29 e_q30 e_q31 ⊢
  refine ca_dup h dX12_init_90 rfl ?_
  refine ca_iconst h dX12_init_91 ik_1 ?_
  refine ca_ldcs h (i := 42) (List.mem_of_getElem? (i := 27) rfl) dX12_init_92 ?_
  refine ca_astoS h (k := 16) (kd := 31) (i := 0) (t := 5) (n := 8) (a := ch_nm 1) rfl (by decide) rfl (by decide) (NP_v np (Or.inr ⟨rfl, rfl, rfl⟩)) e_q31 (show vp_in (nI 1) 8 from vp_in_nI (by decide) (by decide)) dX12_init_94 ?_
  show ch_W _ _ _ (s_rf S19 16 31 0 1 (E.2.2.2.1 (ch_nm 1))) _ _ _ _ _ _
  replace np := NP_rfx np (j := 1) (v := E.2.2.2.1 (ch_nm 1)) (Or.inr ⟨rfl, rfl, rfl⟩) rfl
  replace hN := NM_st hN
  replace e_b0 : (s_rf S19 16 31 0 1 (E.2.2.2.1 (ch_nm 1))).1 16 22 0 = b0 := e_b0
  replace e_q23 : (s_rf S19 16 31 0 1 (E.2.2.2.1 (ch_nm 1))).1 16 23 0 = q23 := e_q23
  replace e_q24 : (s_rf S19 16 31 0 1 (E.2.2.2.1 (ch_nm 1))).1 16 24 0 = q24 := e_q24
  replace e_q25 : (s_rf S19 16 31 0 1 (E.2.2.2.1 (ch_nm 1))).1 16 25 0 = q25 := e_q25
  replace e_q26 : (s_rf S19 16 31 0 1 (E.2.2.2.1 (ch_nm 1))).1 16 26 0 = q26 := e_q26
  replace e_q27 : (s_rf S19 16 31 0 1 (E.2.2.2.1 (ch_nm 1))).1 16 27 0 = q27 := e_q27
  replace e_q28 : (s_rf S19 16 31 0 1 (E.2.2.2.1 (ch_nm 1))).1 16 28 0 = q28 := e_q28
  replace e_q29 : (s_rf S19 16 31 0 1 (E.2.2.2.1 (ch_nm 1))).1 16 29 0 = q29 := e_q29
  replace e_q30 : (s_rf S19 16 31 0 1 (E.2.2.2.1 (ch_nm 1))).1 16 30 0 = q30 := e_q30
  replace e_q31 : (s_rf S19 16 31 0 1 (E.2.2.2.1 (ch_nm 1))).1 16 31 0 = q31 := e_q31
  generalize s_rf S19 16 31 0 1 (E.2.2.2.1 (ch_nm 1)) = S20 at np hN e_b0 e_q23 e_q24 e_q25 e_q26 e_q27 e_q28 e_q29 e_q30 e_q31 ⊢
  refine ca_dup h dX12_init_95 rfl ?_
  refine ca_iconst h dX12_init_96 ik_2 ?_
  refine ca_ldcs h (i := 44) (List.mem_of_getElem? (i := 28) rfl) dX12_init_97 ?_
  refine ca_astoS h (k := 16) (kd := 31) (i := 0) (t := 5) (n := 8) (a := ch_nm 2) rfl (by decide) rfl (by decide) (NP_v np (Or.inr ⟨rfl, rfl, rfl⟩)) e_q31 (show vp_in (nI 2) 8 from vp_in_nI (by decide) (by decide)) dX12_init_99 ?_
  show ch_W _ _ _ (s_rf S20 16 31 0 2 (E.2.2.2.1 (ch_nm 2))) _ _ _ _ _ _
  replace np := NP_rfx np (j := 2) (v := E.2.2.2.1 (ch_nm 2)) (Or.inr ⟨rfl, rfl, rfl⟩) rfl
  replace hN := NM_st hN
  replace e_b0 : (s_rf S20 16 31 0 2 (E.2.2.2.1 (ch_nm 2))).1 16 22 0 = b0 := e_b0
  replace e_q23 : (s_rf S20 16 31 0 2 (E.2.2.2.1 (ch_nm 2))).1 16 23 0 = q23 := e_q23
  replace e_q24 : (s_rf S20 16 31 0 2 (E.2.2.2.1 (ch_nm 2))).1 16 24 0 = q24 := e_q24
  replace e_q25 : (s_rf S20 16 31 0 2 (E.2.2.2.1 (ch_nm 2))).1 16 25 0 = q25 := e_q25
  replace e_q26 : (s_rf S20 16 31 0 2 (E.2.2.2.1 (ch_nm 2))).1 16 26 0 = q26 := e_q26
  replace e_q27 : (s_rf S20 16 31 0 2 (E.2.2.2.1 (ch_nm 2))).1 16 27 0 = q27 := e_q27
  replace e_q28 : (s_rf S20 16 31 0 2 (E.2.2.2.1 (ch_nm 2))).1 16 28 0 = q28 := e_q28
  replace e_q29 : (s_rf S20 16 31 0 2 (E.2.2.2.1 (ch_nm 2))).1 16 29 0 = q29 := e_q29
  replace e_q30 : (s_rf S20 16 31 0 2 (E.2.2.2.1 (ch_nm 2))).1 16 30 0 = q30 := e_q30
  replace e_q31 : (s_rf S20 16 31 0 2 (E.2.2.2.1 (ch_nm 2))).1 16 31 0 = q31 := e_q31
  generalize s_rf S20 16 31 0 2 (E.2.2.2.1 (ch_nm 2)) = S21 at np hN e_b0 e_q23 e_q24 e_q25 e_q26 e_q27 e_q28 e_q29 e_q30 e_q31 ⊢
  refine ca_dup h dX12_init_100 rfl ?_
  refine ca_iconst h dX12_init_101 ik_3 ?_
  refine ca_ldcs h (i := 46) (List.mem_of_getElem? (i := 29) rfl) dX12_init_102 ?_
  refine ca_astoS h (k := 16) (kd := 31) (i := 0) (t := 5) (n := 8) (a := ch_nm 3) rfl (by decide) rfl (by decide) (NP_v np (Or.inr ⟨rfl, rfl, rfl⟩)) e_q31 (show vp_in (nI 3) 8 from vp_in_nI (by decide) (by decide)) dX12_init_104 ?_
  show ch_W _ _ _ (s_rf S21 16 31 0 3 (E.2.2.2.1 (ch_nm 3))) _ _ _ _ _ _
  replace np := NP_rfx np (j := 3) (v := E.2.2.2.1 (ch_nm 3)) (Or.inr ⟨rfl, rfl, rfl⟩) rfl
  replace hN := NM_st hN
  replace e_b0 : (s_rf S21 16 31 0 3 (E.2.2.2.1 (ch_nm 3))).1 16 22 0 = b0 := e_b0
  replace e_q23 : (s_rf S21 16 31 0 3 (E.2.2.2.1 (ch_nm 3))).1 16 23 0 = q23 := e_q23
  replace e_q24 : (s_rf S21 16 31 0 3 (E.2.2.2.1 (ch_nm 3))).1 16 24 0 = q24 := e_q24
  replace e_q25 : (s_rf S21 16 31 0 3 (E.2.2.2.1 (ch_nm 3))).1 16 25 0 = q25 := e_q25
  replace e_q26 : (s_rf S21 16 31 0 3 (E.2.2.2.1 (ch_nm 3))).1 16 26 0 = q26 := e_q26
  replace e_q27 : (s_rf S21 16 31 0 3 (E.2.2.2.1 (ch_nm 3))).1 16 27 0 = q27 := e_q27
  replace e_q28 : (s_rf S21 16 31 0 3 (E.2.2.2.1 (ch_nm 3))).1 16 28 0 = q28 := e_q28
  replace e_q29 : (s_rf S21 16 31 0 3 (E.2.2.2.1 (ch_nm 3))).1 16 29 0 = q29 := e_q29
  replace e_q30 : (s_rf S21 16 31 0 3 (E.2.2.2.1 (ch_nm 3))).1 16 30 0 = q30 := e_q30
  replace e_q31 : (s_rf S21 16 31 0 3 (E.2.2.2.1 (ch_nm 3))).1 16 31 0 = q31 := e_q31
  generalize s_rf S21 16 31 0 3 (E.2.2.2.1 (ch_nm 3)) = S22 at np hN e_b0 e_q23 e_q24 e_q25 e_q26 e_q27 e_q28 e_q29 e_q30 e_q31 ⊢
  refine ca_dup h dX12_init_105 rfl ?_
  refine ca_iconst h dX12_init_106 ik_4 ?_
  refine ca_ldcs h (i := 48) (List.mem_of_getElem? (i := 30) rfl) dX12_init_107 ?_
  refine ca_astoS h (k := 16) (kd := 31) (i := 0) (t := 5) (n := 8) (a := ch_nm 4) rfl (by decide) rfl (by decide) (NP_v np (Or.inr ⟨rfl, rfl, rfl⟩)) e_q31 (show vp_in (nI 4) 8 from vp_in_nI (by decide) (by decide)) dX12_init_109 ?_
  show ch_W _ _ _ (s_rf S22 16 31 0 4 (E.2.2.2.1 (ch_nm 4))) _ _ _ _ _ _
  replace np := NP_rfx np (j := 4) (v := E.2.2.2.1 (ch_nm 4)) (Or.inr ⟨rfl, rfl, rfl⟩) rfl
  replace hN := NM_st hN
  replace e_b0 : (s_rf S22 16 31 0 4 (E.2.2.2.1 (ch_nm 4))).1 16 22 0 = b0 := e_b0
  replace e_q23 : (s_rf S22 16 31 0 4 (E.2.2.2.1 (ch_nm 4))).1 16 23 0 = q23 := e_q23
  replace e_q24 : (s_rf S22 16 31 0 4 (E.2.2.2.1 (ch_nm 4))).1 16 24 0 = q24 := e_q24
  replace e_q25 : (s_rf S22 16 31 0 4 (E.2.2.2.1 (ch_nm 4))).1 16 25 0 = q25 := e_q25
  replace e_q26 : (s_rf S22 16 31 0 4 (E.2.2.2.1 (ch_nm 4))).1 16 26 0 = q26 := e_q26
  replace e_q27 : (s_rf S22 16 31 0 4 (E.2.2.2.1 (ch_nm 4))).1 16 27 0 = q27 := e_q27
  replace e_q28 : (s_rf S22 16 31 0 4 (E.2.2.2.1 (ch_nm 4))).1 16 28 0 = q28 := e_q28
  replace e_q29 : (s_rf S22 16 31 0 4 (E.2.2.2.1 (ch_nm 4))).1 16 29 0 = q29 := e_q29
  replace e_q30 : (s_rf S22 16 31 0 4 (E.2.2.2.1 (ch_nm 4))).1 16 30 0 = q30 := e_q30
  replace e_q31 : (s_rf S22 16 31 0 4 (E.2.2.2.1 (ch_nm 4))).1 16 31 0 = q31 := e_q31
  generalize s_rf S22 16 31 0 4 (E.2.2.2.1 (ch_nm 4)) = S23 at np hN e_b0 e_q23 e_q24 e_q25 e_q26 e_q27 e_q28 e_q29 e_q30 e_q31 ⊢
  refine ca_dup h dX12_init_110 rfl ?_
  refine ca_iconst h dX12_init_111 ik_5 ?_
  refine ca_ldcs h (i := 50) (List.mem_of_getElem? (i := 31) rfl) dX12_init_112 ?_
  refine ca_astoS h (k := 16) (kd := 31) (i := 0) (t := 5) (n := 8) (a := ch_nm 5) rfl (by decide) rfl (by decide) (NP_v np (Or.inr ⟨rfl, rfl, rfl⟩)) e_q31 (show vp_in (nI 5) 8 from vp_in_nI (by decide) (by decide)) dX12_init_114 ?_
  show ch_W _ _ _ (s_rf S23 16 31 0 5 (E.2.2.2.1 (ch_nm 5))) _ _ _ _ _ _
  replace np := NP_rfx np (j := 5) (v := E.2.2.2.1 (ch_nm 5)) (Or.inr ⟨rfl, rfl, rfl⟩) rfl
  replace hN := NM_st hN
  replace e_b0 : (s_rf S23 16 31 0 5 (E.2.2.2.1 (ch_nm 5))).1 16 22 0 = b0 := e_b0
  replace e_q23 : (s_rf S23 16 31 0 5 (E.2.2.2.1 (ch_nm 5))).1 16 23 0 = q23 := e_q23
  replace e_q24 : (s_rf S23 16 31 0 5 (E.2.2.2.1 (ch_nm 5))).1 16 24 0 = q24 := e_q24
  replace e_q25 : (s_rf S23 16 31 0 5 (E.2.2.2.1 (ch_nm 5))).1 16 25 0 = q25 := e_q25
  replace e_q26 : (s_rf S23 16 31 0 5 (E.2.2.2.1 (ch_nm 5))).1 16 26 0 = q26 := e_q26
  replace e_q27 : (s_rf S23 16 31 0 5 (E.2.2.2.1 (ch_nm 5))).1 16 27 0 = q27 := e_q27
  replace e_q28 : (s_rf S23 16 31 0 5 (E.2.2.2.1 (ch_nm 5))).1 16 28 0 = q28 := e_q28
  replace e_q29 : (s_rf S23 16 31 0 5 (E.2.2.2.1 (ch_nm 5))).1 16 29 0 = q29 := e_q29
  replace e_q30 : (s_rf S23 16 31 0 5 (E.2.2.2.1 (ch_nm 5))).1 16 30 0 = q30 := e_q30
  replace e_q31 : (s_rf S23 16 31 0 5 (E.2.2.2.1 (ch_nm 5))).1 16 31 0 = q31 := e_q31
  generalize s_rf S23 16 31 0 5 (E.2.2.2.1 (ch_nm 5)) = S24 at np hN e_b0 e_q23 e_q24 e_q25 e_q26 e_q27 e_q28 e_q29 e_q30 e_q31 ⊢
  refine ca_dup h dX12_init_115 rfl ?_
  refine ca_bipush h dX12_init_116 bk_6 ?_
  refine ca_ldcs h (i := 52) (List.mem_of_getElem? (i := 32) rfl) dX12_init_118 ?_
  refine ca_astoS h (k := 16) (kd := 31) (i := 0) (t := 5) (n := 8) (a := ch_nm 6) rfl (by decide) rfl (by decide) (NP_v np (Or.inr ⟨rfl, rfl, rfl⟩)) e_q31 (show vp_in (nI 6) 8 from vp_in_nI (by decide) (by decide)) dX12_init_120 ?_
  show ch_W _ _ _ (s_rf S24 16 31 0 6 (E.2.2.2.1 (ch_nm 6))) _ _ _ _ _ _
  replace np := NP_rfx np (j := 6) (v := E.2.2.2.1 (ch_nm 6)) (Or.inr ⟨rfl, rfl, rfl⟩) rfl
  replace hN := NM_st hN
  replace e_b0 : (s_rf S24 16 31 0 6 (E.2.2.2.1 (ch_nm 6))).1 16 22 0 = b0 := e_b0
  replace e_q23 : (s_rf S24 16 31 0 6 (E.2.2.2.1 (ch_nm 6))).1 16 23 0 = q23 := e_q23
  replace e_q24 : (s_rf S24 16 31 0 6 (E.2.2.2.1 (ch_nm 6))).1 16 24 0 = q24 := e_q24
  replace e_q25 : (s_rf S24 16 31 0 6 (E.2.2.2.1 (ch_nm 6))).1 16 25 0 = q25 := e_q25
  replace e_q26 : (s_rf S24 16 31 0 6 (E.2.2.2.1 (ch_nm 6))).1 16 26 0 = q26 := e_q26
  replace e_q27 : (s_rf S24 16 31 0 6 (E.2.2.2.1 (ch_nm 6))).1 16 27 0 = q27 := e_q27
  replace e_q28 : (s_rf S24 16 31 0 6 (E.2.2.2.1 (ch_nm 6))).1 16 28 0 = q28 := e_q28
  replace e_q29 : (s_rf S24 16 31 0 6 (E.2.2.2.1 (ch_nm 6))).1 16 29 0 = q29 := e_q29
  replace e_q30 : (s_rf S24 16 31 0 6 (E.2.2.2.1 (ch_nm 6))).1 16 30 0 = q30 := e_q30
  replace e_q31 : (s_rf S24 16 31 0 6 (E.2.2.2.1 (ch_nm 6))).1 16 31 0 = q31 := e_q31
  generalize s_rf S24 16 31 0 6 (E.2.2.2.1 (ch_nm 6)) = S25 at np hN e_b0 e_q23 e_q24 e_q25 e_q26 e_q27 e_q28 e_q29 e_q30 e_q31 ⊢
  refine ca_dup h dX12_init_121 rfl ?_
  refine ca_bipush h dX12_init_122 bk_7 ?_
  refine ca_ldcs h (i := 54) (List.mem_of_getElem? (i := 33) rfl) dX12_init_124 ?_
  refine ca_astoS h (k := 16) (kd := 31) (i := 0) (t := 5) (n := 8) (a := ch_nm 7) rfl (by decide) rfl (by decide) (NP_v np (Or.inr ⟨rfl, rfl, rfl⟩)) e_q31 (show vp_in (nI 7) 8 from vp_in_nI (by decide) (by decide)) dX12_init_126 ?_
  show ch_W _ _ _ (s_rf S25 16 31 0 7 (E.2.2.2.1 (ch_nm 7))) _ _ _ _ _ _
  replace np := NP_rfx np (j := 7) (v := E.2.2.2.1 (ch_nm 7)) (Or.inr ⟨rfl, rfl, rfl⟩) rfl
  replace hN := NM_st hN
  replace e_b0 : (s_rf S25 16 31 0 7 (E.2.2.2.1 (ch_nm 7))).1 16 22 0 = b0 := e_b0
  replace e_q23 : (s_rf S25 16 31 0 7 (E.2.2.2.1 (ch_nm 7))).1 16 23 0 = q23 := e_q23
  replace e_q24 : (s_rf S25 16 31 0 7 (E.2.2.2.1 (ch_nm 7))).1 16 24 0 = q24 := e_q24
  replace e_q25 : (s_rf S25 16 31 0 7 (E.2.2.2.1 (ch_nm 7))).1 16 25 0 = q25 := e_q25
  replace e_q26 : (s_rf S25 16 31 0 7 (E.2.2.2.1 (ch_nm 7))).1 16 26 0 = q26 := e_q26
  replace e_q27 : (s_rf S25 16 31 0 7 (E.2.2.2.1 (ch_nm 7))).1 16 27 0 = q27 := e_q27
  replace e_q28 : (s_rf S25 16 31 0 7 (E.2.2.2.1 (ch_nm 7))).1 16 28 0 = q28 := e_q28
  replace e_q29 : (s_rf S25 16 31 0 7 (E.2.2.2.1 (ch_nm 7))).1 16 29 0 = q29 := e_q29
  replace e_q30 : (s_rf S25 16 31 0 7 (E.2.2.2.1 (ch_nm 7))).1 16 30 0 = q30 := e_q30
  replace e_q31 : (s_rf S25 16 31 0 7 (E.2.2.2.1 (ch_nm 7))).1 16 31 0 = q31 := e_q31
  generalize s_rf S25 16 31 0 7 (E.2.2.2.1 (ch_nm 7)) = S26 at np hN e_b0 e_q23 e_q24 e_q25 e_q26 e_q27 e_q28 e_q29 e_q30 e_q31 ⊢
  refine ca_putR (ci := 12) (j := 21) (ty := tyX12 21) h rfl rfl li_X12 tyX12 tyX12_ok nmX12 rfl (NP_v np (Or.inl (Or.inl (Or.inl (Or.inl (Or.inl (Or.inl (Or.inl (Or.inl (Or.inl ⟨rfl, rfl, rfl⟩)))))))))) e_b0 (by decide) rfl kw_1338 rfl hnm rfl (tyX12_ok 21 (by decide)) rfl rfl dX12_init_127 ?_
  replace np := NP_rfA np (j := 21) (Or.inl (Or.inl (Or.inl (Or.inl (Or.inl (Or.inl (Or.inl (Or.inl (Or.inl ⟨rfl, rfl, rfl⟩))))))))) (r := (16, 31, 0)) rfl (NP_v np (Or.inr ⟨rfl, rfl, rfl⟩)) e_q31
  replace e_b0 : (s_rf S26 16 22 0 21 q31).1 16 22 0 = b0 := e_b0
  replace e_q23 : (s_rf S26 16 22 0 21 q31).1 16 23 0 = q23 := e_q23
  replace e_q24 : (s_rf S26 16 22 0 21 q31).1 16 24 0 = q24 := e_q24
  replace e_q25 : (s_rf S26 16 22 0 21 q31).1 16 25 0 = q25 := e_q25
  replace e_q26 : (s_rf S26 16 22 0 21 q31).1 16 26 0 = q26 := e_q26
  replace e_q27 : (s_rf S26 16 22 0 21 q31).1 16 27 0 = q27 := e_q27
  replace e_q28 : (s_rf S26 16 22 0 21 q31).1 16 28 0 = q28 := e_q28
  replace e_q29 : (s_rf S26 16 22 0 21 q31).1 16 29 0 = q29 := e_q29
  replace e_q30 : (s_rf S26 16 22 0 21 q31).1 16 30 0 = q30 := e_q30
  replace e_q31 : (s_rf S26 16 22 0 21 q31).1 16 31 0 = q31 := e_q31
  replace hN := NM_rf (v := q31) (k := 16) (kd := 22) (i := 0) (j := 21) (by decide) hN
  generalize s_rf S26 16 22 0 21 q31 = S27 at np e_b0 e_q23 e_q24 e_q25 e_q26 e_q27 e_q28 e_q29 e_q30 e_q31 hN ⊢
  refine ca_aload_nr h dX12_init_130 rfl ?_
  refine ca_sipush h dX12_init_131 sk_200 ?_
  refine ca_newI h 16 32 0 hG (hb (NP_v np (by omega))) rfl kw_69 (by decide) (n := 200) (by decide) rfl ⟨by omega, by omega⟩ dX12_init_134 ?_
  intro q32
  obtain ⟨np', mv⟩ := NP_newA (q := q32) np (hf 16 32 0 (by (first | omega | (unfold PN0; omega) | simp)) (by omega)) (by show ¬ (((((((((((16) = 16 ∧ (32) = 22 ∧ (0) = 0) ∨ ((16) = 16 ∧ (32) = 23 ∧ (0) = 0)) ∨ ((16) = 16 ∧ (32) = 24 ∧ (0) = 0)) ∨ ((16) = 16 ∧ (32) = 25 ∧ (0) = 0)) ∨ ((16) = 16 ∧ (32) = 26 ∧ (0) = 0)) ∨ ((16) = 16 ∧ (32) = 27 ∧ (0) = 0)) ∨ ((16) = 16 ∧ (32) = 28 ∧ (0) = 0)) ∨ ((16) = 16 ∧ (32) = 29 ∧ (0) = 0)) ∨ ((16) = 16 ∧ (32) = 30 ∧ (0) = 0)) ∨ ((16) = 16 ∧ (32) = 31 ∧ (0) = 0)); omega) rfl (by intro j; show ¬ (((((((((((16) = (16) + 1) ∨ ((16) = 16 ∧ (32) = 22 ∧ (0) = 0 ∧ (j) = 0)) ∨ ((16) = 16 ∧ (32) = 22 ∧ (0) = 0 ∧ (j) = 1)) ∨ ((16) = 16 ∧ (32) = 22 ∧ (0) = 0 ∧ (j) = 2)) ∨ ((16) = 16 ∧ (32) = 22 ∧ (0) = 0 ∧ (j) = 3)) ∨ ((16) = 16 ∧ (32) = 22 ∧ (0) = 0 ∧ (j) = 4)) ∨ ((16) = 16 ∧ (32) = 22 ∧ (0) = 0 ∧ (j) = 8)) ∨ ((16) = 16 ∧ (32) = 22 ∧ (0) = 0 ∧ (j) = 9)) ∨ ((16) = 16 ∧ (32) = 22 ∧ (0) = 0 ∧ (j) = 11)) ∨ ((16) = 16 ∧ (32) = 22 ∧ (0) = 0 ∧ (j) = 21)); omega)
  replace e_b0 := mv 16 22 0 _ (NP_v np (Or.inl (Or.inl (Or.inl (Or.inl (Or.inl (Or.inl (Or.inl (Or.inl (Or.inl ⟨rfl, rfl, rfl⟩)))))))))) e_b0
  replace e_q23 := mv 16 23 0 _ (NP_v np (Or.inl (Or.inl (Or.inl (Or.inl (Or.inl (Or.inl (Or.inl (Or.inl (Or.inr ⟨rfl, rfl, rfl⟩)))))))))) e_q23
  replace e_q24 := mv 16 24 0 _ (NP_v np (Or.inl (Or.inl (Or.inl (Or.inl (Or.inl (Or.inl (Or.inl (Or.inr ⟨rfl, rfl, rfl⟩))))))))) e_q24
  replace e_q25 := mv 16 25 0 _ (NP_v np (Or.inl (Or.inl (Or.inl (Or.inl (Or.inl (Or.inl (Or.inr ⟨rfl, rfl, rfl⟩)))))))) e_q25
  replace e_q26 := mv 16 26 0 _ (NP_v np (Or.inl (Or.inl (Or.inl (Or.inl (Or.inl (Or.inr ⟨rfl, rfl, rfl⟩))))))) e_q26
  replace e_q27 := mv 16 27 0 _ (NP_v np (Or.inl (Or.inl (Or.inl (Or.inl (Or.inr ⟨rfl, rfl, rfl⟩)))))) e_q27
  replace e_q28 := mv 16 28 0 _ (NP_v np (Or.inl (Or.inl (Or.inl (Or.inr ⟨rfl, rfl, rfl⟩))))) e_q28
  replace e_q29 := mv 16 29 0 _ (NP_v np (Or.inl (Or.inl (Or.inr ⟨rfl, rfl, rfl⟩)))) e_q29
  replace e_q30 := mv 16 30 0 _ (NP_v np (Or.inl (Or.inr ⟨rfl, rfl, rfl⟩))) e_q30
  replace e_q31 := mv 16 31 0 _ (NP_v np (Or.inr ⟨rfl, rfl, rfl⟩)) e_q31
  have e_q32 := s_ad_s S27 16 32 0 q32
  clear np mv
  replace hN := NM_ad (q := q32) (k := 16) (kd := 32) (i := 0) (by decide) hN
  generalize s_ad S27 16 32 0 q32 = S28 at np' e_b0 e_q23 e_q24 e_q25 e_q26 e_q27 e_q28 e_q29 e_q30 e_q31 e_q32 hN ⊢
  replace z_b0 := (ch_z_n (μ := μ18) (k := 16) (kd := 32) (i := 0) (show ¬ (16 = 16 ∧ 22 = 32 ∧ 0 = 0) by omega)).trans z_b0
  generalize hz_ : ch_z μ18 16 32 0 = μ28 at np' z_b0 ⊢
  have z_q32 : μ28 16 32 0 = fun _ => 0 := by rw [← hz_]; exact ch_z_0 _ _ _ _
  clear hz_
  have np := np'
  clear np'
  refine ca_putR (ci := 12) (j := 22) (ty := tyX12 22) h rfl rfl li_X12 tyX12 tyX12_ok nmX12 rfl (NP_v np (Or.inl (Or.inl (Or.inl (Or.inl (Or.inl (Or.inl (Or.inl (Or.inl (Or.inl (Or.inl ⟨rfl, rfl, rfl⟩))))))))))) e_b0 (by decide) rfl kw_1339 rfl hnm rfl (tyX12_ok 22 (by decide)) rfl rfl dX12_init_136 ?_
  replace np := NP_rfA np (j := 22) (Or.inl (Or.inl (Or.inl (Or.inl (Or.inl (Or.inl (Or.inl (Or.inl (Or.inl (Or.inl ⟨rfl, rfl, rfl⟩)))))))))) (r := (16, 32, 0)) rfl (NP_v np (Or.inr ⟨rfl, rfl, rfl⟩)) e_q32
  replace e_b0 : (s_rf S28 16 22 0 22 q32).1 16 22 0 = b0 := e_b0
  replace e_q23 : (s_rf S28 16 22 0 22 q32).1 16 23 0 = q23 := e_q23
  replace e_q24 : (s_rf S28 16 22 0 22 q32).1 16 24 0 = q24 := e_q24
  replace e_q25 : (s_rf S28 16 22 0 22 q32).1 16 25 0 = q25 := e_q25
  replace e_q26 : (s_rf S28 16 22 0 22 q32).1 16 26 0 = q26 := e_q26
  replace e_q27 : (s_rf S28 16 22 0 22 q32).1 16 27 0 = q27 := e_q27
  replace e_q28 : (s_rf S28 16 22 0 22 q32).1 16 28 0 = q28 := e_q28
  replace e_q29 : (s_rf S28 16 22 0 22 q32).1 16 29 0 = q29 := e_q29
  replace e_q30 : (s_rf S28 16 22 0 22 q32).1 16 30 0 = q30 := e_q30
  replace e_q31 : (s_rf S28 16 22 0 22 q32).1 16 31 0 = q31 := e_q31
  replace e_q32 : (s_rf S28 16 22 0 22 q32).1 16 32 0 = q32 := e_q32
  replace hN := NM_rf (v := q32) (k := 16) (kd := 22) (i := 0) (j := 22) (by decide) hN
  generalize s_rf S28 16 22 0 22 q32 = S29 at np e_b0 e_q23 e_q24 e_q25 e_q26 e_q27 e_q28 e_q29 e_q30 e_q31 e_q32 hN ⊢
  refine ca_aload_nr h dX12_init_139 rfl ?_
  refine ca_sipush h dX12_init_140 sk_200 ?_
  refine ca_newI h 16 33 0 hG (hb (NP_v np (by omega))) rfl kw_69 (by decide) (n := 200) (by decide) rfl ⟨by omega, by omega⟩ dX12_init_143 ?_
  intro q33
  obtain ⟨np', mv⟩ := NP_newA (q := q33) np (hf 16 33 0 (by (first | omega | (unfold PN0; omega) | simp)) (by omega)) (by show ¬ ((((((((((((16) = 16 ∧ (33) = 22 ∧ (0) = 0) ∨ ((16) = 16 ∧ (33) = 23 ∧ (0) = 0)) ∨ ((16) = 16 ∧ (33) = 24 ∧ (0) = 0)) ∨ ((16) = 16 ∧ (33) = 25 ∧ (0) = 0)) ∨ ((16) = 16 ∧ (33) = 26 ∧ (0) = 0)) ∨ ((16) = 16 ∧ (33) = 27 ∧ (0) = 0)) ∨ ((16) = 16 ∧ (33) = 28 ∧ (0) = 0)) ∨ ((16) = 16 ∧ (33) = 29 ∧ (0) = 0)) ∨ ((16) = 16 ∧ (33) = 30 ∧ (0) = 0)) ∨ ((16) = 16 ∧ (33) = 31 ∧ (0) = 0)) ∨ ((16) = 16 ∧ (33) = 32 ∧ (0) = 0)); omega) rfl (by intro j; show ¬ ((((((((((((16) = (16) + 1) ∨ ((16) = 16 ∧ (33) = 22 ∧ (0) = 0 ∧ (j) = 0)) ∨ ((16) = 16 ∧ (33) = 22 ∧ (0) = 0 ∧ (j) = 1)) ∨ ((16) = 16 ∧ (33) = 22 ∧ (0) = 0 ∧ (j) = 2)) ∨ ((16) = 16 ∧ (33) = 22 ∧ (0) = 0 ∧ (j) = 3)) ∨ ((16) = 16 ∧ (33) = 22 ∧ (0) = 0 ∧ (j) = 4)) ∨ ((16) = 16 ∧ (33) = 22 ∧ (0) = 0 ∧ (j) = 8)) ∨ ((16) = 16 ∧ (33) = 22 ∧ (0) = 0 ∧ (j) = 9)) ∨ ((16) = 16 ∧ (33) = 22 ∧ (0) = 0 ∧ (j) = 11)) ∨ ((16) = 16 ∧ (33) = 22 ∧ (0) = 0 ∧ (j) = 21)) ∨ ((16) = 16 ∧ (33) = 22 ∧ (0) = 0 ∧ (j) = 22)); omega)
  replace e_b0 := mv 16 22 0 _ (NP_v np (Or.inl (Or.inl (Or.inl (Or.inl (Or.inl (Or.inl (Or.inl (Or.inl (Or.inl (Or.inl ⟨rfl, rfl, rfl⟩))))))))))) e_b0
  replace e_q23 := mv 16 23 0 _ (NP_v np (Or.inl (Or.inl (Or.inl (Or.inl (Or.inl (Or.inl (Or.inl (Or.inl (Or.inl (Or.inr ⟨rfl, rfl, rfl⟩))))))))))) e_q23
  replace e_q24 := mv 16 24 0 _ (NP_v np (Or.inl (Or.inl (Or.inl (Or.inl (Or.inl (Or.inl (Or.inl (Or.inl (Or.inr ⟨rfl, rfl, rfl⟩)))))))))) e_q24
  replace e_q25 := mv 16 25 0 _ (NP_v np (Or.inl (Or.inl (Or.inl (Or.inl (Or.inl (Or.inl (Or.inl (Or.inr ⟨rfl, rfl, rfl⟩))))))))) e_q25
  replace e_q26 := mv 16 26 0 _ (NP_v np (Or.inl (Or.inl (Or.inl (Or.inl (Or.inl (Or.inl (Or.inr ⟨rfl, rfl, rfl⟩)))))))) e_q26
  replace e_q27 := mv 16 27 0 _ (NP_v np (Or.inl (Or.inl (Or.inl (Or.inl (Or.inl (Or.inr ⟨rfl, rfl, rfl⟩))))))) e_q27
  replace e_q28 := mv 16 28 0 _ (NP_v np (Or.inl (Or.inl (Or.inl (Or.inl (Or.inr ⟨rfl, rfl, rfl⟩)))))) e_q28
  replace e_q29 := mv 16 29 0 _ (NP_v np (Or.inl (Or.inl (Or.inl (Or.inr ⟨rfl, rfl, rfl⟩))))) e_q29
  replace e_q30 := mv 16 30 0 _ (NP_v np (Or.inl (Or.inl (Or.inr ⟨rfl, rfl, rfl⟩)))) e_q30
  replace e_q31 := mv 16 31 0 _ (NP_v np (Or.inl (Or.inr ⟨rfl, rfl, rfl⟩))) e_q31
  replace e_q32 := mv 16 32 0 _ (NP_v np (Or.inr ⟨rfl, rfl, rfl⟩)) e_q32
  have e_q33 := s_ad_s S29 16 33 0 q33
  clear np mv
  replace hN := NM_ad (q := q33) (k := 16) (kd := 33) (i := 0) (by decide) hN
  generalize s_ad S29 16 33 0 q33 = S30 at np' e_b0 e_q23 e_q24 e_q25 e_q26 e_q27 e_q28 e_q29 e_q30 e_q31 e_q32 e_q33 hN ⊢
  replace z_b0 := (ch_z_n (μ := μ28) (k := 16) (kd := 33) (i := 0) (show ¬ (16 = 16 ∧ 22 = 33 ∧ 0 = 0) by omega)).trans z_b0
  generalize hz_ : ch_z μ28 16 33 0 = μ30 at np' z_b0 ⊢
  have z_q33 : μ30 16 33 0 = fun _ => 0 := by rw [← hz_]; exact ch_z_0 _ _ _ _
  clear hz_
  have np := np'
  clear np'
  refine ca_putR (ci := 12) (j := 23) (ty := tyX12 23) h rfl rfl li_X12 tyX12 tyX12_ok nmX12 rfl (NP_v np (Or.inl (Or.inl (Or.inl (Or.inl (Or.inl (Or.inl (Or.inl (Or.inl (Or.inl (Or.inl (Or.inl ⟨rfl, rfl, rfl⟩)))))))))))) e_b0 (by decide) rfl kw_1340 rfl hnm rfl (tyX12_ok 23 (by decide)) rfl rfl dX12_init_145 ?_
  replace np := NP_rfA np (j := 23) (Or.inl (Or.inl (Or.inl (Or.inl (Or.inl (Or.inl (Or.inl (Or.inl (Or.inl (Or.inl (Or.inl ⟨rfl, rfl, rfl⟩))))))))))) (r := (16, 33, 0)) rfl (NP_v np (Or.inr ⟨rfl, rfl, rfl⟩)) e_q33
  replace e_b0 : (s_rf S30 16 22 0 23 q33).1 16 22 0 = b0 := e_b0
  replace e_q23 : (s_rf S30 16 22 0 23 q33).1 16 23 0 = q23 := e_q23
  replace e_q24 : (s_rf S30 16 22 0 23 q33).1 16 24 0 = q24 := e_q24
  replace e_q25 : (s_rf S30 16 22 0 23 q33).1 16 25 0 = q25 := e_q25
  replace e_q26 : (s_rf S30 16 22 0 23 q33).1 16 26 0 = q26 := e_q26
  replace e_q27 : (s_rf S30 16 22 0 23 q33).1 16 27 0 = q27 := e_q27
  replace e_q28 : (s_rf S30 16 22 0 23 q33).1 16 28 0 = q28 := e_q28
  replace e_q29 : (s_rf S30 16 22 0 23 q33).1 16 29 0 = q29 := e_q29
  replace e_q30 : (s_rf S30 16 22 0 23 q33).1 16 30 0 = q30 := e_q30
  replace e_q31 : (s_rf S30 16 22 0 23 q33).1 16 31 0 = q31 := e_q31
  replace e_q32 : (s_rf S30 16 22 0 23 q33).1 16 32 0 = q32 := e_q32
  replace e_q33 : (s_rf S30 16 22 0 23 q33).1 16 33 0 = q33 := e_q33
  replace hN := NM_rf (v := q33) (k := 16) (kd := 22) (i := 0) (j := 23) (by decide) hN
  generalize s_rf S30 16 22 0 23 q33 = S31 at np e_b0 e_q23 e_q24 e_q25 e_q26 e_q27 e_q28 e_q29 e_q30 e_q31 e_q32 e_q33 hN ⊢
  refine ca_aload_nr h dX12_init_148 rfl ?_
  refine ca_tR e_b0 ?_
  refine gr_X12_9 h (NP_v np (Or.inl (Or.inl (Or.inl (Or.inl (Or.inl (Or.inl (Or.inl (Or.inl (Or.inl (Or.inl (Or.inl ⟨rfl, rfl, rfl⟩)))))))))))) (np.2.2.2.2 16 22 0 0 (16, 23, 0) (Or.inl (Or.inl (Or.inl (Or.inl (Or.inl (Or.inl (Or.inl (Or.inl (Or.inl (Or.inl (Or.inl ⟨rfl, rfl, rfl⟩))))))))))) (by show (((((((((((((16) = (16) + 1) ∨ ((16) = 16 ∧ (22) = 22 ∧ (0) = 0 ∧ (0) = 0)) ∨ ((16) = 16 ∧ (22) = 22 ∧ (0) = 0 ∧ (0) = 1)) ∨ ((16) = 16 ∧ (22) = 22 ∧ (0) = 0 ∧ (0) = 2)) ∨ ((16) = 16 ∧ (22) = 22 ∧ (0) = 0 ∧ (0) = 3)) ∨ ((16) = 16 ∧ (22) = 22 ∧ (0) = 0 ∧ (0) = 4)) ∨ ((16) = 16 ∧ (22) = 22 ∧ (0) = 0 ∧ (0) = 8)) ∨ ((16) = 16 ∧ (22) = 22 ∧ (0) = 0 ∧ (0) = 9)) ∨ ((16) = 16 ∧ (22) = 22 ∧ (0) = 0 ∧ (0) = 11)) ∨ ((16) = 16 ∧ (22) = 22 ∧ (0) = 0 ∧ (0) = 21)) ∨ ((16) = 16 ∧ (22) = 22 ∧ (0) = 0 ∧ (0) = 22)) ∨ ((16) = 16 ∧ (22) = 22 ∧ (0) = 0 ∧ (0) = 23)); omega) rfl).2 dX12_init_149 ?_
  show ch_W _ _ _ _ _ _ _ _ _ (.ref (S31.1 16 23 0) :: _)
  rw [e_q23]
  refine ca_tR e_q23 ?_
  refine ca_sv h hG ms_X12_66 (c_X12_clear (NP_v np (Or.inl (Or.inl (Or.inl (Or.inl (Or.inl (Or.inl (Or.inl (Or.inl (Or.inl (Or.inl (Or.inr ⟨rfl, rfl, rfl⟩)))))))))))) rfl) rfl rfl rfl rfl ⟨by omega, by omega⟩ rfl dX12_init_152 ?_
  replace np := NP_memO (μ' := up μ30 16 (na (μ30 16) 23 0 (r_clrW (μ30 16 23 0)))) np (Or.inl (Or.inl (Or.inl (Or.inl (Or.inl (Or.inl (Or.inl (Or.inl (Or.inl (Or.inl (Or.inr ⟨rfl, rfl, rfl⟩))))))))))) (by show ¬ ((((((((((((16) = (16) + 1) ∨ ((16) = 16 ∧ (23) = 24 ∧ (0) = 0)) ∨ ((16) = 16 ∧ (23) = 25 ∧ (0) = 0)) ∨ ((16) = 16 ∧ (23) = 26 ∧ (0) = 0)) ∨ ((16) = 16 ∧ (23) = 27 ∧ (0) = 0)) ∨ ((16) = 16 ∧ (23) = 28 ∧ (0) = 0)) ∨ ((16) = 16 ∧ (23) = 29 ∧ (0) = 0)) ∨ ((16) = 16 ∧ (23) = 30 ∧ (0) = 0)) ∨ ((16) = 16 ∧ (23) = 31 ∧ (0) = 0)) ∨ ((16) = 16 ∧ (23) = 32 ∧ (0) = 0)) ∨ ((16) = 16 ∧ (23) = 33 ∧ (0) = 0)); omega) (fun a b c e => ch_sa_ne e)
  replace z_b0 := (ch_sa_ne (μ := μ30) (k := 16) (kd := 23) (i := 0) (f := r_clrW (μ30 16 23 0)) (k' := 16) (kd' := 22) (i' := 0) (by decide)).trans z_b0
  have hw : ∃ w, up μ30 16 (na (μ30 16) 23 0 (r_clrW (μ30 16 23 0))) 16 23 0 = r_clrW w := ⟨_, ch_sa_same μ30 16 23 0 _⟩
  refine ca_room (kc' := 11) (ks' := 21956) (by omega) (by omega) ?_
  refine ca_vreturn h hR dX12_init_155 ⟨rfl, ?_⟩
  exact ⟨NP_w np (by intro a b c; constructor; (· (intro z; rcases (show b = 22 ∨ b = 23 ∨ b = 24 ∨ b = 25 ∨ b = 26 ∨ b = 27 ∨ b = 28 ∨ b = 29 ∨ b = 30 ∨ b = 31 ∨ b = 32 ∨ b = 33 by omega) with y | y | y | y | y | y | y | y | y | y | y | y; (· exact (Or.inl (Or.inl (Or.inl (Or.inl (Or.inl (Or.inl (Or.inl (Or.inl (Or.inl (Or.inl (Or.inl ⟨z.1, y, z.2.2.2⟩)))))))))))); (· exact (Or.inl (Or.inl (Or.inl (Or.inl (Or.inl (Or.inl (Or.inl (Or.inl (Or.inl (Or.inl (Or.inr ⟨z.1, y, z.2.2.2⟩)))))))))))); (· exact (Or.inl (Or.inl (Or.inl (Or.inl (Or.inl (Or.inl (Or.inl (Or.inl (Or.inl (Or.inr ⟨z.1, y, z.2.2.2⟩))))))))))); (· exact (Or.inl (Or.inl (Or.inl (Or.inl (Or.inl (Or.inl (Or.inl (Or.inl (Or.inr ⟨z.1, y, z.2.2.2⟩)))))))))); (· exact (Or.inl (Or.inl (Or.inl (Or.inl (Or.inl (Or.inl (Or.inl (Or.inr ⟨z.1, y, z.2.2.2⟩))))))))); (· exact (Or.inl (Or.inl (Or.inl (Or.inl (Or.inl (Or.inl (Or.inr ⟨z.1, y, z.2.2.2⟩)))))))); (· exact (Or.inl (Or.inl (Or.inl (Or.inl (Or.inl (Or.inr ⟨z.1, y, z.2.2.2⟩))))))); (· exact (Or.inl (Or.inl (Or.inl (Or.inl (Or.inr ⟨z.1, y, z.2.2.2⟩)))))); (· exact (Or.inl (Or.inl (Or.inl (Or.inr ⟨z.1, y, z.2.2.2⟩))))); (· exact (Or.inl (Or.inl (Or.inr ⟨z.1, y, z.2.2.2⟩)))); (· exact (Or.inl (Or.inr ⟨z.1, y, z.2.2.2⟩))); (· exact (Or.inr ⟨z.1, y, z.2.2.2⟩)))); (· (intro z; rcases z with (((((((((((z | z) | z) | z) | z) | z) | z) | z) | z) | z) | z) | z) <;> omega))) (by intro a b c z y; rcases z with (((((((((((z | z) | z) | z) | z) | z) | z) | z) | z) | z) | z) | z); (· (exfalso; omega)); (· (exfalso; omega)); (· (exact (Or.inl (Or.inl (Or.inl (Or.inl (Or.inl (Or.inl (Or.inl (Or.inl (Or.inl (Or.inr z)))))))))))); (· (exact (Or.inl (Or.inl (Or.inl (Or.inl (Or.inl (Or.inl (Or.inl (Or.inl (Or.inr z))))))))))); (· (exact (Or.inl (Or.inl (Or.inl (Or.inl (Or.inl (Or.inl (Or.inl (Or.inr z)))))))))); (· (exact (Or.inl (Or.inl (Or.inl (Or.inl (Or.inl (Or.inl (Or.inr z))))))))); (· (exact (Or.inl (Or.inl (Or.inl (Or.inl (Or.inl (Or.inr z)))))))); (· (exact (Or.inl (Or.inl (Or.inl (Or.inl (Or.inr z))))))); (· (exact (Or.inl (Or.inl (Or.inl (Or.inr z)))))); (· (exact (Or.inl (Or.inl (Or.inr z))))); (· (exact (Or.inl (Or.inr z)))); (· (exact (Or.inr z)))) (by intro a b c j r z _ e; rcases z with (((((((((((z | z) | z) | z) | z) | z) | z) | z) | z) | z) | z) | z); (· (have ej := ch_rt_j e; rcases (show j = 0 ∨ j = 1 ∨ j = 2 ∨ j = 3 ∨ j = 4 ∨ j = 8 ∨ j = 9 ∨ j = 11 ∨ j = 21 ∨ j = 22 ∨ j = 23 by omega) with y | y | y | y | y | y | y | y | y | y | y; (· exact (Or.inl (Or.inl (Or.inl (Or.inl (Or.inl (Or.inl (Or.inl (Or.inl (Or.inl (Or.inl (Or.inr ⟨z.1, z.2.1, z.2.2, y⟩)))))))))))); (· exact (Or.inl (Or.inl (Or.inl (Or.inl (Or.inl (Or.inl (Or.inl (Or.inl (Or.inl (Or.inr ⟨z.1, z.2.1, z.2.2, y⟩))))))))))); (· exact (Or.inl (Or.inl (Or.inl (Or.inl (Or.inl (Or.inl (Or.inl (Or.inl (Or.inr ⟨z.1, z.2.1, z.2.2, y⟩)))))))))); (· exact (Or.inl (Or.inl (Or.inl (Or.inl (Or.inl (Or.inl (Or.inl (Or.inr ⟨z.1, z.2.1, z.2.2, y⟩))))))))); (· exact (Or.inl (Or.inl (Or.inl (Or.inl (Or.inl (Or.inl (Or.inr ⟨z.1, z.2.1, z.2.2, y⟩)))))))); (· exact (Or.inl (Or.inl (Or.inl (Or.inl (Or.inl (Or.inr ⟨z.1, z.2.1, z.2.2, y⟩))))))); (· exact (Or.inl (Or.inl (Or.inl (Or.inl (Or.inr ⟨z.1, z.2.1, z.2.2, y⟩)))))); (· exact (Or.inl (Or.inl (Or.inl (Or.inr ⟨z.1, z.2.1, z.2.2, y⟩))))); (· exact (Or.inl (Or.inl (Or.inr ⟨z.1, z.2.1, z.2.2, y⟩)))); (· exact (Or.inl (Or.inr ⟨z.1, z.2.1, z.2.2, y⟩))); (· exact (Or.inr ⟨z.1, z.2.1, z.2.2, y⟩)))); (· (have ej := ch_rt_j e; exfalso; omega)); (· (have ej := ch_rt_j e; exfalso; omega)); (· (have ej := ch_rt_j e; exfalso; omega)); (· (have ej := ch_rt_j e; exfalso; omega)); (· (have ej := ch_rt_j e; exfalso; omega)); (· (have ej := ch_rt_j e; exfalso; omega)); (· (have ej := ch_rt_j e; exfalso; omega)); (· (have ej := ch_rt_j e; exfalso; omega)); (· (have ej := ch_rt_j e; exfalso; omega)); (· (have ej := ch_rt_j e; exfalso; omega)); (· (have ej := ch_rt_j e; exfalso; omega))), hN, z_b0, hw⟩
/-! THE READERS' CONSTRUCTORS -/
def c_PostR (S : ch_S) (μ : ch_M) (kd net : Nat) : Option Value → ch_S → ch_M → Prop := fun v S' μ' => v = none ∧ S' = s_rf (s_rf S 15 kd 0 0 (S.1 15 12 0)) 15 kd 0 1 (S.1 net 0 0) ∧ μ' = μ
set_option maxHeartbeats 400000 in
theorem c_X4_init {l : Launch} {E : ch_E} {S : ch_S} {μ : ch_M} {net : Nat} (hv : S.2.1 15 35 0) : ch_C E l yX4_init cX4_init 3 none 2 0 0 S μ [.ref (S.1 15 35 0), .ref (S.1 15 12 0), .ref (S.1 net 0 0)] (c_PostR S μ 35 net) := by
  refine ch_enter rfl rfl ?_
  intro X hl0 h hG hR hnm
  have h : ch_H X E RX4 cX4_init 3 := h
  show ch_W X E 3 S μ 0 0 0 [(0, .ref (S.1 15 35 0)), (1, .ref (S.1 15 12 0)), (2, .ref (S.1 net 0 0))] []
  refine ca_aload_nr h dX4_init_0 rfl ?_
  refine ca_objI h hG kw_604 kw_33 kw_34 rfl rfl dX4_init_1 ?_
  refine ca_aload_nr h dX4_init_4 rfl ?_
  refine ca_aload_nr h dX4_init_5 rfl ?_
  refine ca_putR (ci := 4) (j := 0) (k := 15) (kd := 35) (i := 0) (ty := tyX4 0) h rfl rfl li_X4 tyX4 tyX4_ok nmX4 rfl hv rfl (by decide) rfl kw_605 rfl hnm rfl (tyX4_ok 0 (by decide)) rfl rfl dX4_init_6 ?_
  refine ca_aload_nr h dX4_init_9 rfl ?_
  refine ca_aload_nr h dX4_init_10 rfl ?_
  refine ca_putR (ci := 4) (j := 1) (k := 15) (kd := 35) (i := 0) (ty := tyX4 1) h rfl rfl li_X4 tyX4 tyX4_ok nmX4 rfl hv rfl (by decide) rfl kw_606 rfl hnm rfl (tyX4_ok 1 (by decide)) rfl rfl dX4_init_11 ?_
  exact ca_vreturn h hR dX4_init_14 ⟨rfl, rfl, rfl⟩
set_option maxHeartbeats 400000 in
theorem c_X5_init {l : Launch} {E : ch_E} {S : ch_S} {μ : ch_M} {net : Nat} (hv : S.2.1 15 36 0) : ch_C E l yX5_init cX5_init 3 none 2 0 0 S μ [.ref (S.1 15 36 0), .ref (S.1 15 12 0), .ref (S.1 net 0 0)] (c_PostR S μ 36 net) := by
  refine ch_enter rfl rfl ?_
  intro X hl0 h hG hR hnm
  have h : ch_H X E RX5 cX5_init 3 := h
  show ch_W X E 3 S μ 0 0 0 [(0, .ref (S.1 15 36 0)), (1, .ref (S.1 15 12 0)), (2, .ref (S.1 net 0 0))] []
  refine ca_aload_nr h dX5_init_0 rfl ?_
  refine ca_objI h hG kw_1222 kw_33 kw_34 rfl rfl dX5_init_1 ?_
  refine ca_aload_nr h dX5_init_4 rfl ?_
  refine ca_aload_nr h dX5_init_5 rfl ?_
  refine ca_putR (ci := 5) (j := 0) (k := 15) (kd := 36) (i := 0) (ty := tyX5 0) h rfl rfl li_X5 tyX5 tyX5_ok nmX5 rfl hv rfl (by decide) rfl kw_1223 rfl hnm rfl (tyX5_ok 0 (by decide)) rfl rfl dX5_init_6 ?_
  refine ca_aload_nr h dX5_init_9 rfl ?_
  refine ca_aload_nr h dX5_init_10 rfl ?_
  refine ca_putR (ci := 5) (j := 1) (k := 15) (kd := 36) (i := 0) (ty := tyX5 1) h rfl rfl li_X5 tyX5 tyX5_ok nmX5 rfl hv rfl (by decide) rfl kw_1224 rfl hnm rfl (tyX5_ok 1 (by decide)) rfl rfl dX5_init_11 ?_
  exact ca_vreturn h hR dX5_init_14 ⟨rfl, rfl, rfl⟩
