/-! NEW OBJECTS over the memory -/
/-- a name given to a new address: no references yet -/
def s_ad (S : ch_S) (k kd i q : Nat) : ch_S :=
  (fun a b c => if a = k ∧ b = kd ∧ c = i then q else S.1 a b c, fun a b c => S.2.1 a b c ∨ (a = k ∧ b = kd ∧ c = i), fun a b c j => if a = k ∧ b = kd ∧ c = i then none else S.2.2 a b c j)
/-- a reference stored -/
def s_rf (S : ch_S) (k kd i j r : Nat) : ch_S := (S.1, S.2.1, fun a b c d => if a = k ∧ b = kd ∧ c = i ∧ d = j then some r else S.2.2 a b c d)
/-- its ints are 0 -/
def ch_z (μ : ch_M) (k kd i : Nat) : ch_M := ch_sa μ k kd i (fun _ => 0)
theorem ch_ct_congr {E : ch_E} {S S' : ch_S} {μ μ' : ch_M} {k kd i : Nat} (h1 : S.2.2 k kd i = S'.2.2 k kd i) (h2 : μ k kd i = μ' k kd i) : ch_ct E S μ k kd i = ch_ct E S' μ' k kd i := by
  have e2 : ∀ ci, ch_fs S μ ci k kd i = ch_fs S' μ' ci k kd i := by
    intro ci
    have e3 : ch_v S μ ci k kd i = ch_v S' μ' ci k kd i := by funext j'; unfold ch_v; rw [h1, h2]
    unfold ch_fs; rw [e3]
  unfold ch_ct
  simp only [e2, h1, h2]
theorem s_ad_s (S : ch_S) (k kd i q : Nat) : (s_ad S k kd i q).1 k kd i = q := by simp [s_ad]
theorem s_ad_n {S : ch_S} {k kd i q a b c : Nat} (h : ¬ (a = k ∧ b = kd ∧ c = i)) : (s_ad S k kd i q).1 a b c = S.1 a b c := by unfold s_ad; exact if_neg h
theorem s_ad_v (S : ch_S) (k kd i q : Nat) : (s_ad S k kd i q).2.1 k kd i := Or.inr ⟨rfl, rfl, rfl⟩
theorem s_ad_r {S : ch_S} {k kd i q a b c : Nat} (h : ¬ (a = k ∧ b = kd ∧ c = i)) : (s_ad S k kd i q).2.2 a b c = S.2.2 a b c := by funext j; unfold s_ad; exact if_neg h
theorem s_ad_0 (S : ch_S) (k kd i q j : Nat) : (s_ad S k kd i q).2.2 k kd i j = none := by unfold s_ad; exact if_pos ⟨rfl, rfl, rfl⟩
theorem ch_z_n {μ : ch_M} {k kd i a b c : Nat} (h : ¬ (a = k ∧ b = kd ∧ c = i)) : ch_z μ k kd i a b c = μ a b c := ch_sa_ne h
theorem ch_z_0 (μ : ch_M) (k kd i : Nat) : ch_z μ k kd i k kd i = fun _ => 0 := ch_sa_same _ _ _ _ _
theorem ch_I_lt {E : ch_E} {S : ch_S} {μ : ch_M} {H : Heap} (h : ch_I E S μ H) {k kd i : Nat} (hv : S.2.1 k kd i) : S.1 k kd i < H.size := (h.1 k kd i hv).lt
theorem ch_I_ad {E : ch_E} {S : ch_S} {μ : ch_M} {H H1 : Heap} {k kd i : Nat} (h : ch_I E S μ H) (hb : E.1 ≤ H.size) (he : va_at E.2.1 ch_cl (H.size, ch_ct E (s_ad S k kd i H.size) (ch_z μ k kd i) k kd i) H1) (ho : ∀ q : Nat, q < H.size → H1[q]? = H[q]?) : ch_I E (s_ad S k kd i H.size) (ch_z μ k kd i) H1 := by
  have old : ∀ {a b c}, ¬ (a = k ∧ b = kd ∧ c = i) → (s_ad S k kd i H.size).2.1 a b c → S.2.1 a b c := fun hn hv => hv.resolve_right hn
  refine ⟨fun a b c hv => ?_, fun a b c a' b' c' hv hv' e => ?_, fun a b c hv => ?_, fun a b c ci j hv hc hz => ?_⟩
  · by_cases e : a = k ∧ b = kd ∧ c = i
    · obtain ⟨rfl, rfl, rfl⟩ := e
      rw [s_ad_s]; exact he
    · rw [s_ad_n e, ch_ct_congr (S' := S) (μ' := μ) (s_ad_r e) (ch_z_n e)]
      exact (h.1 a b c (old e hv)).kept (ho _ (ch_I_lt h (old e hv)))
  · by_cases e1 : a = k ∧ b = kd ∧ c = i
    · by_cases e2 : a' = k ∧ b' = kd ∧ c' = i
      · exact ⟨e1.1.trans e2.1.symm, e1.2.1.trans e2.2.1.symm, e1.2.2.trans e2.2.2.symm⟩
      · obtain ⟨rfl, rfl, rfl⟩ := e1
        rw [s_ad_s, s_ad_n e2] at e
        have := ch_I_lt h (old e2 hv')
        omega
    · by_cases e2 : a' = k ∧ b' = kd ∧ c' = i
      · obtain ⟨rfl, rfl, rfl⟩ := e2
        rw [s_ad_s, s_ad_n e1] at e
        have := ch_I_lt h (old e1 hv)
        omega
      · rw [s_ad_n e1, s_ad_n e2] at e
        exact h.2.1 _ _ _ _ _ _ (old e1 hv) (old e2 hv') e
  · by_cases e : a = k ∧ b = kd ∧ c = i
    · obtain ⟨rfl, rfl, rfl⟩ := e
      rw [s_ad_s]; exact hb
    · rw [s_ad_n e]; exact h.2.2.1 _ _ _ (old e hv)
  · by_cases e : a = k ∧ b = kd ∧ c = i
    · obtain ⟨rfl, rfl, rfl⟩ := e
      rw [ch_z_0]; exact Or.inl rfl
    · rw [ch_z_n e]; exact h.2.2.2 _ _ _ ci j (old e hv) hc hz
theorem ch_I_rf {E : ch_E} {S : ch_S} {μ : ch_M} {H H1 : Heap} {k kd i j r : Nat} (h : ch_I E S μ H) (hv : S.2.1 k kd i) (he : va_at E.2.1 ch_cl (S.1 k kd i, ch_ct E (s_rf S k kd i j r) μ k kd i) H1) (ho : ∀ q : Nat, q ≠ S.1 k kd i → H1[q]? = H[q]?) : ch_I E (s_rf S k kd i j r) μ H1 := by
  refine ⟨fun a b c hv' => ?_, h.2.1, h.2.2.1, h.2.2.2⟩
  by_cases e : a = k ∧ b = kd ∧ c = i
  · obtain ⟨rfl, rfl, rfl⟩ := e
    exact he
  · have e2 : (s_rf S k kd i j r).2.2 a b c = S.2.2 a b c := by
      funext d
      unfold s_rf
      exact if_neg (fun z => e ⟨z.1, z.2.1, z.2.2.1⟩)
    rw [ch_ct_congr (S' := S) (μ' := μ) e2 rfl]
    exact (h.1 a b c hv').kept (ho _ (fun q => e (h.2.1 _ _ _ _ _ _ hv' hv q)))
section NewRows
variable {X : ch_X} {E : ch_E} {own : String} {cc : ByteArray} {nL : Nat} {S : ch_S} {μ : ch_M} {kc ks pc : Nat} {L : List (Nat × Value)} {st : List Value}
/-- where a new address lies: behind the base -/
def ch_bs (X : ch_X) (E : ch_E) (S : ch_S) : Prop := E.1 ≤ (x_s X).heap.size ∨ ∃ a b c, S.2.1 a b c
theorem ch_bs_le (hb : ch_bs X E S) {H : Heap} {locs : List Loc} (hI : ch_I E S μ H) (hS : va_S (fun q => E.1 ≤ q) (x_s X).heap H locs) : E.1 ≤ H.size := by
  rcases hb with z | ⟨a, b, c, z⟩
  · exact Nat.le_trans z hS.1
  · exact Nat.le_trans (hI.2.2.1 a b c z) (Nat.le_of_lt (ch_I_lt hI z))
theorem ca_newO (h : ch_H X E own cc nL) {D MC MS idx ci : Nat} (k kd i : Nat) {C : String} {T : u_T} {N : Nat} (hG : ch_G X D MC MS) (hb : ch_bs X E S) (hc : ch_cl[ci]? = some (C, T, N)) (hN : N = ch_size ci) (hin : ∀ w ∈ u_ws C T N, w ∈ ch_GL) (ty : Nat → FieldType) (hty : ∀ j, j < N → parseFieldDescriptor (T j).2.2.1 = some (ty j)) (hv : ∀ j, j < N → defaultValue (ty j) = if ch_rs ci j = true then .null else .int 0) (hk : ch_kd kd = .inl ci)
    (hl : Cond.classLink own idx C ∈ ch_GL) (hi : Cond.instantiable C N ∈ ch_GL) (hini : Cond.initialized C ∈ ch_GL) (hkc : kc + 1 ≤ MC ∧ ks + N ≤ MS) (hd : decode cc pc = .ok (.new idx, 3)) (kk : ∀ q, ch_W X E nL (s_ad S k kd i q) (ch_z μ k kd i) (kc + 1) (ks + N) (pc + 3) L (.ref q :: st)) : ch_W X E nL S μ kc ks pc L st := by
  intro H locs ls hI hS hl'
  have hts : ∀ w ∈ ch_GL, w.before (x_a X) (x_s X) = true := h.2.2.2.1
  have hKn := h.2.2.2.2.1.1.1 ci _ hc
  refine W.newcK h.1 h.2.1 h.2.2.1 (hts _ hl) (hts _ hi) (hts _ hini) rfl hd (Nat.le_trans hkc.1 hG.2.2.1) (Nat.le_trans hkc.2 hG.2.2.2) hKn.2.1 rfl fun H1 kC hkC e1 z1 o1 => ?_
  refine kk H.size H1 locs ls (ch_I_ad hI (ch_bs_le hb hI hS) ?_ o1) ⟨Nat.le_trans hS.1 (by omega), fun x h1 h2 => (o1 x (Nat.lt_of_lt_of_le h1 hS.1)).trans (hS.2.1 x h1 h2), hS.2.2⟩ hl'
  rw [ch_ct_o hk]
  refine ⟨_, hc, (u_born ty hts hin hKn hkC e1 hty).to fun j hj => ?_⟩
  rw [hv j hj]
  simp only [vp_V, List.getD_eq_getElem?_getD, ch_fs_get (hN ▸ hj)]
  unfold ch_v
  rw [s_ad_0, ch_z_0]
  split <;> rfl
theorem ca_newI (h : ch_H X E own cc nL) {D MC MS n : Nat} (k kd i : Nat) {x : Int32} (hG : ch_G X D MC MS) (hb : ch_bs X E S) (hk : ch_kd kd = .inr (0, 0, n)) (harr : Cond.arrayClass (newarray.typeOf .int) ∈ ch_GL) (h0 : ¬ x < 0) (hn : x.toNatClampNeg = n) (hby : Nat.ble (n * 4) 536870912 = true)
    (hkc : kc + 1 ≤ MC ∧ ks + n ≤ MS) (hd : decode cc pc = .ok (.newarray .int, 2)) (kk : ∀ q, ch_W X E nL (s_ad S k kd i q) (ch_z μ k kd i) (kc + 1) (ks + n) (pc + 2) L (.ref q :: st)) : ch_W X E nL S μ kc ks pc L (.int x :: st) := by
  intro H locs ls hI hS hl'
  have hts : ∀ w ∈ ch_GL, w.before (x_a X) (x_s X) = true := h.2.2.2.1
  refine va_newaK h.1 h.2.1 (hts _ harr) rfl hd rfl h0 hn (Nat.le_of_ble_eq_true hby) (Nat.le_trans hkc.1 hG.2.2.1) (Nat.le_trans hkc.2 hG.2.2.2) rfl fun H1 cA e1 z1 o1 hAr hNm => ?_
  refine kk H.size H1 locs ls (ch_I_ad hI (ch_bs_le hb hI hS) ?_ o1) ⟨Nat.le_trans hS.1 (by omega), fun x h1 h2 => (o1 x (Nat.lt_of_lt_of_le h1 hS.1)).trans (hS.2.1 x h1 h2), hS.2.2⟩ hl'
  have ec : E.2.2.1 0 = cA := Option.some.inj ((ch_typ h.2.2.2.2.1 (t := 0) (by decide)).2.symm.trans hNm)
  rw [ch_ct_a hk, ec, ch_z_0]
  exact e1
theorem ca_newQ (h : ch_H X E own cc nL) {D MC MS n t idx : Nat} (k kd i : Nat) {x : Int32} {C : String} (hG : ch_G X D MC MS) (hb : ch_bs X E S) (hk : ch_kd kd = .inr (t, 1, n)) (ht : t < 7) (hty : ch_ty t = .object C) (hcl : Cond.classLink own idx C ∈ ch_GL) (hao : C ∈ ch_ao) (h0 : ¬ x < 0) (hn : x.toNatClampNeg = n) (hby : Nat.ble (n * 4) 536870912 = true)
    (hkc : kc + 1 ≤ MC ∧ ks + n ≤ MS) (hd : decode cc pc = .ok (.anewarray idx, 3)) (kk : ∀ q, ch_W X E nL (s_ad S k kd i q) (ch_z μ k kd i) (kc + 1) (ks + n) (pc + 3) L (.ref q :: st)) : ch_W X E nL S μ kc ks pc L (.int x :: st) := by
  intro H locs ls hI hS hl'
  have hts : ∀ w ∈ ch_GL, w.before (x_a X) (x_s X) = true := h.2.2.2.1
  subst hn
  refine W.anew h.1 h.2.1 h.2.2.1 (hts _ hcl) (va_AO.use (h.2.2.2.2.1.2.1.1 C hao)) rfl hd rfl h0 (Nat.le_of_ble_eq_true hby) (Nat.le_trans hkc.1 hG.2.2.1) (Nat.le_trans hkc.2 hG.2.2.2) fun cA kA comp f1 f2 f3 f4 => ?_
  generalize hH1 : H.push ({ cls := cA, slots := Array.replicate x.toNatClampNeg .null, vm := .none } : Cell) = H1
  have z1 : H1.size = H.size + 1 := by rw [← hH1, Array.size_push]
  have e1 : H1[H.size]? = some (arrV cA x.toNatClampNeg (fun _ => .null)) := by rw [← hH1, Array.getElem?_push_size, ← arrV_new]
  have o1 : ∀ q : Nat, q < H.size → H1[q]? = H[q]? := fun q hq => by rw [← hH1, Array.getElem?_push, if_neg (Nat.ne_of_lt hq)]
  refine kk H.size H1 locs ls (ch_I_ad hI (ch_bs_le hb hI hS) ?_ o1) ⟨Nat.le_trans hS.1 (by omega), fun x h1 h2 => (o1 x (Nat.lt_of_lt_of_le h1 hS.1)).trans (hS.2.1 x h1 h2), hS.2.2⟩ hl'
  have hr := (ch_typ h.2.2.2.2.1 ht).2
  rw [hty] at hr
  obtain ⟨kA', comp', r1, r2, r3, r4⟩ := hr
  have ec : E.2.2.1 t = cA := Option.some.inj (r4.symm.trans f1)
  rw [ch_ct_q hk, ec]
  show H1[H.size]? = some (vp_cell _ _)
  have ef : (s_ad S k kd i H.size).2.2 k kd i = fun _ => none := by funext j; exact s_ad_0 _ _ _ _ _ _
  rw [ef, vp_cell_q]
  exact e1
theorem ca_asto (h : ch_H X E own cc nL) {k kd i t n k2 kd2 i2 ci a v : Nat} {x : Int32} {r : vw_C} (hk : ch_kd kd = .inr (t, 1, n)) (ht : t < 7) (hty : ch_ty t = .object r.1) (hv : S.2.1 k kd i) (hv2 : S.2.1 k2 kd2 i2) (hk2 : ch_kd kd2 = .inl ci) (hc : ch_cl[ci]? = some r) (ea : S.1 k kd i = a) (ev : S.1 k2 kd2 i2 = v) (hin : vp_in x n) (hd : decode cc pc = .ok (.aastore, 1))
    (kk : ch_W X E nL (s_rf S k kd i x.toNatClampNeg v) μ kc ks (pc + 1) L st) : ch_W X E nL S μ kc ks pc L (.ref v :: .int x :: .ref a :: st) := by
  intro H locs ls hI hS hl'
  subst ea; subst ev
  have hlt : x.toNatClampNeg < n := Nat.not_le.mp fun q => hin (Or.inr q)
  have h0 : ¬ x < 0 := fun q => hin (Or.inl q)
  have hcell := hI.1 k kd i hv
  rw [ch_ct_q hk] at hcell
  obtain ⟨cellV, g1, g2, g3, -⟩ := ch_field hI hv2 hk2 hc
  have hcls := (h.2.2.2.2.1.1.1 ci r hc).2
  have hr := (ch_typ h.2.2.2.2.1 ht).2
  rw [hty] at hr
  obtain ⟨kA, comp, k1, k2', k3, -⟩ := hr
  have hcomp : comp = E.2.1.1 ci := Option.some.inj (k3.symm.trans hcls.1)
  subst hcomp
  obtain ⟨kC, hkC, -⟩ := hcls.2
  refine W.aast h.1 h.2.1 hcell (fun q z => by cases z) (fun z => by cases z) k1 k2' rfl hkC ⟨h0, by show _ < (arrV _ _ _).slots.size; rw [arrV_size]; exact hlt⟩ g1 (fun q z => by rw [g3] at z; cases z) (by rw [g2]; exact hkC) (by rw [g2]; exact va_assign hcls) rfl rfl hd fun H1 e z oq => ?_
  refine kk H1 _ ls (ch_I_rf hI hv ?_ oq) (hS.put z oq (hI.2.2.1 _ _ _ hv)) hl'
  rw [ch_ct_q hk]
  show H1[S.1 k kd i]? = some (vp_cell _ _)
  rw [e]
  rw [vp_cell_q, vp_cell_q, arrV_store]
  congr 2
  funext q
  by_cases hq : q = x.toNatClampNeg
  · subst hq
    simp [updV, s_rf, va_rf]
  · simp [updV, s_rf, hq]
theorem ch_fs_rf {ci k kd i j r : Nat} (h : j < ch_size ci) (hr : ch_rs ci j = true) : (ch_fs S μ ci k kd i).set j (.ref r) = ch_fs (s_rf S k kd i j r) μ ci k kd i := by
  apply List.ext_getElem?
  intro j'
  by_cases hj : j' < ch_size ci
  · rw [ch_fs_get hj]
    by_cases e : j' = j
    · subst e
      have hl : j' < (ch_fs S μ ci k kd i).length := by simp [ch_fs, hj]
      rw [List.getElem?_set_self hl]
      unfold ch_v
      rw [if_pos hr]
      simp [s_rf, va_rf]
    · rw [List.getElem?_set_ne (Ne.symm e), ch_fs_get hj]
      unfold ch_v
      simp [s_rf, e]
  · rw [List.getElem?_eq_none (by simp [ch_fs]; omega), List.getElem?_eq_none (by simp [ch_fs]; omega)]
/-- a constructor's final reference -/
theorem ca_putR (h : ch_H X E own cc nL) {ci index k kd i j a v : Nat} {C : String} {T : u_T} {N : Nat} {ty : FieldType} (hc : ch_cl[ci]? = some (C, T, N)) (hN : N = ch_size ci) (hin : ∀ w ∈ u_ws C T N, w ∈ ch_GL) (ty0 : Nat → FieldType) (hty : ∀ k, k < N → parseFieldDescriptor (T k).2.2.1 = some (ty0 k)) (hnm : ∀ a, a < N → ∀ b, b < N → a ≠ b → (T a).2.1 ≠ (T b).2.1) (hk : ch_kd kd = .inl ci) (hv : S.2.1 k kd i) (ea : S.1 k kd i = a) (hj : j < N) (hr : ch_rs ci j = true) (hw : Cond.fieldLink own index (T j).1 (T j).2.1 (T j).2.2.1 ∈ ch_GL)
    (hfin : (T j).2.2.2 = true) (hin2 : (x_h X).name = "<init>") (hdecl : (T j).1 = own) (hdc : parseFieldDescriptor (T j).2.2.1 = some ty) (hn : narrow ty (.ref v) = .ref v) (hfit : fits ty (.ref v) = true)
    (hd : decode cc pc = .ok (.putfield index, 3)) (kk : ch_W X E nL (s_rf S k kd i j v) μ kc ks (pc + 3) L st) : ch_W X E nL S μ kc ks pc L (.ref v :: .ref a :: st) := by
  intro H locs ls hI hS hl
  subst ea
  obtain ⟨cell, q1, q2, q3, q4⟩ := ch_field hI hv hk hc
  have hts : ∀ w ∈ ch_GL, w.before (x_a X) (x_s X) = true := h.2.2.2.1
  have hap := ch_apart h.2.2.2.2.1 hts hc hin ty0 hty hnm
  obtain ⟨hSl, hfc, kC, hkC, hkind⟩ := h.2.2.2.2.1.1.1 ci _ hc
  obtain ⟨cf, kf, fi, f, hi, hsl⟩ := hSl j hj
  have hlay := hts _ (hin _ (u_in_lay hj))
  unfold u_lay at hlay
  rw [if_pos hfin] at hlay
  have hst := (u_facts hfc hkC (u_lays hts hin hj) hi).1
  have hcf : (x_m X).cls = cf := by
    obtain ⟨_, _, c', _, _, _, -, -, hf', -, -, -, hown2, -⟩ := Cond.laysFinal_spec hlay
    have e1 : c' = cf := by have := hi.symm.trans hf'; simp at this; exact this.1.symm
    rw [hdecl] at hown2
    rw [← e1]; exact Option.some.inj (h.2.2.1.symm.trans hown2)
  have h6 := u_fits hfc hkC hkind (Or.inr hlay) hi hdc hn hfit
  refine W.putFinK h.1 h.2.1 h.2.2.1 (hts _ hw) hi hst hcf hin2 (by rw [q2]; exact h6) q1 q3 (by rw [hsl]; exact k2_hasslot (q4 j hj)) rfl rfl hd fun H' e1 e2 e3 => ?_
  rw [hsl] at e1 ⊢
  refine kk H' _ ls (ch_I_rf hI hv ?_ e3) (hS.put e2 e3 (hI.2.2.1 _ _ _ hv)) hl
  rw [ch_ct_o hk]
  refine ⟨_, hc, ?_⟩
  show t_OB (S.1 k kd i) (E.2.1.1 ci) N (E.2.1.2 ci) H' (vp_V (ch_fs (s_rf S k kd i j v) μ ci k kd i))
  rw [← ch_fs_rf (by rw [← hN]; exact hj) hr]
  exact t_OB.to (V := updV (vp_V (ch_fs S μ ci k kd i)) j (.ref v)) ⟨_, e1, q2, q3, t_set q4 hap hj (.ref v)⟩ (fun j' _ => vp_updV_set (by simp [ch_fs]; rw [← hN]; exact hj) _ j')
/-- constructors called -/
theorem ca_callI (h : ch_H X E own cc nL) {D MC MS idx d mc ms n maxL b : Nat} {y : MethodName} {bytes : ByteArray} {stk As : List Value} {Post : Option Value → ch_S → ch_M → Prop} (hG : ch_G X D MC MS) (l1 : Cond.methodLink own idx y ∈ ch_GL) (l2 : Cond.instanceMethod y ∈ ch_GL) (l4 : Cond.initialized y.cls ∈ ch_GL) (l5 : Cond.code y bytes maxL none ∈ ch_GL) (l6 : y.cls ≠ "java/lang/invoke/MethodHandle" ∧ y.cls ≠ "java/lang/invoke/VarHandle" ∧ (parseMethodDescriptor y.desc).map (fun d => d.parameters.length) = some n) (l7 : y.name = "<init>") (hM : ch_C E (x_l X) y bytes maxL none d mc ms S μ (.ref b :: As) Post) (hstk : stk = As.reverse ++ .ref b :: st)
    (hn : As.length = n) (hD : Nat.ble (d + 1) D = true) (hm : Nat.ble maxL 22 = true) (hkc : kc + mc ≤ MC ∧ ks + ms ≤ MS) (hst : Nat.ble (st.map fun v => v.category).sum 8 = true) (hd : decode cc pc = .ok (.invokespecial idx, 3))
    (kk : ∀ (v : Option Value) (S' : ch_S) (μ' : ch_M), Post v S' μ' → ch_W X E nL S' μ' (kc + mc) (ks + ms) (pc + 3) L (v.toList ++ st)) : ch_W X E nL S μ kc ks pc L stk := by
  intro H locs ls hI hS hl
  have hts := h.2.2.2.1
  subst hstk
  exact ch_back (a := (Value.ref b :: As).toArray) hS hl (va_runI (Ts := ch_GL) (own := own) (b := b) (As := As) (rest := st) ⟨h.1, h.2.1, h.2.2.2.2.2.2, h.2.2.1, hts⟩ hM ⟨ch_callB h hG hD hm l1 l4 l5 l6, l7, hts _ l2⟩ ⟨ch_blind, fun U hU hW => ⟨rfl, ch_ready h hI hS U hU hW⟩⟩ rfl hn hl.1 rfl (lv_room (m := x_m X) (pc := pc) (ls := ls) (Nat.le_of_ble_eq_true hst)) hd ⟨Nat.le_trans hkc.1 hG.2.2.1, Nat.le_trans hkc.2 hG.2.2.2⟩) kk
theorem ca_callIN (h : ch_H X E own cc nL) {D MC MS idx d mc ms n maxL b : Nat} {y : MethodName} {bytes : ByteArray} {host : String} {stk As : List Value} {Post : Option Value → ch_S → ch_M → Prop} (hG : ch_G X D MC MS) (l1 : (own, idx, y, host) ∈ ch_nest) (l2 : Cond.instanceMethod y ∈ ch_GL) (l4 : Cond.initialized y.cls ∈ ch_GL) (l5 : Cond.code y bytes maxL none ∈ ch_GL) (l6 : y.cls ≠ "java/lang/invoke/MethodHandle" ∧ y.cls ≠ "java/lang/invoke/VarHandle" ∧ (parseMethodDescriptor y.desc).map (fun d => d.parameters.length) = some n) (l7 : y.name = "<init>") (hM : ch_C E (x_l X) y bytes maxL none d mc ms S μ (.ref b :: As) Post) (hstk : stk = As.reverse ++ .ref b :: st)
    (hn : As.length = n) (hD : Nat.ble (d + 1) D = true) (hm : Nat.ble maxL 22 = true) (hkc : kc + mc ≤ MC ∧ ks + ms ≤ MS) (hst : Nat.ble (st.map fun v => v.category).sum 8 = true) (hd : decode cc pc = .ok (.invokespecial idx, 3))
    (kk : ∀ (v : Option Value) (S' : ch_S) (μ' : ch_M), Post v S' μ' → ch_W X E nL S' μ' (kc + mc) (ks + ms) (pc + 3) L (v.toList ++ st)) : ch_W X E nL S μ kc ks pc L stk := by
  intro H locs ls hI hS hl
  have hts := h.2.2.2.1
  have h1 := Nat.le_of_ble_eq_true hD
  have h2 := Nat.le_of_ble_eq_true hm
  subst hstk
  refine ch_back (a := (Value.ref b :: As).toArray) hS hl (va_runIN (Ts := ch_GL) (own := own) (b := b) (As := As) (rest := st) ⟨h.1, h.2.1, h.2.2.2.2.2.2, h.2.2.1, hts⟩ hM ⟨va_cnB (Ts := ch_GL) n hts (ch_good (fun w hw => (List.mem_cons.mp hw).elim (fun e => by rw [e]; exact l5) id)) rfl rfl rfl (h.2.2.2.2.1.2.2.2.2.2.2.2.1.1 _ l1) (hts _ l4) l6 ⟨Nat.le_trans h1 hG.1, ?_⟩, l7, hts _ l2⟩ ⟨ch_blind, fun U hU hW => ⟨rfl, ch_ready h hI hS U hU hW⟩⟩ rfl hn hl.1 rfl (lv_room (m := x_m X) (pc := pc) (ls := ls) (Nat.le_of_ble_eq_true hst)) hd ⟨Nat.le_trans hkc.1 hG.2.2.1, Nat.le_trans hkc.2 hG.2.2.2⟩) kk
  have h3 := hG.2.1
  show 8 + (maxL + 11) + 41 * d ≤ _
  omega
end NewRows
