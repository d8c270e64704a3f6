/-! ROWS FOR THE LAW'S OWN OBJECTS: nest mates' fields, arrays of arrays, indices that are small numbers, new names -/
section ORows
variable {X : ch_X} {E : ch_E} {own : String} {cc : ByteArray} {nL : Nat} {S : ch_S} {μ : ch_M} {kc ks pc : Nat} {L : List (Nat × Value)} {st : List Value}
theorem oa_getv (h : ch_H X E own cc nL) {ci index k kd i j : Nat} {C host : String} {T : u_T} {N : Nat} (hc : ch_cl[ci]? = some (C, T, N)) (hN : N = ch_size ci) (hin : ∀ w ∈ u_ws C T N, w ∈ ch_GL) (hk : ch_kd kd = .inl ci) (hv : S.2.1 k kd i) (hj : j < N) (hw : (own, index, (T j).1, (T j).2.1, (T j).2.2.1, host) ∈ ch_nfl)
    (hd : decode cc pc = .ok (.getfield index, 3)) (kk : ch_W X E nL S μ kc ks (pc + 3) L (ch_v S μ ci k kd i j :: st)) : ch_W X E nL S μ kc ks pc L (.ref (S.1 k kd i) :: st) := by
  intro H locs ls hI hS hl
  obtain ⟨cell, q1, q2, q3, q4⟩ := ch_field hI hv hk hc
  obtain ⟨hSl, hfc, kC, hkC, hkind⟩ := h.2.2.2.2.1.1.1 ci _ hc
  obtain ⟨cf, kf, fi, f, hi, hsl⟩ := hSl j hj
  have hts : ∀ w ∈ ch_GL, w.before (x_a X) (x_s X) = true := h.2.2.2.1
  refine va_Wgetf h.1 h.2.1 h.2.2.1 ((h.2.2.2.2.1.2.2.2.2.2.2.2.1.2 _ hw).use rfl) hi (u_facts hfc hkC (u_lays hts hin hj) hi).1 q1 (by rw [q3]; exact fun z => by cases z) (v := ch_v S μ ci k kd i j) ?_ rfl rfl hd (kk H locs ls hI hS hl)
  rw [hsl, q4 j hj]
  subst hN
  simp [vp_V, List.getD_eq_getElem?_getD, ch_fs_get hj]
theorem oa_geti (h : ch_H X E own cc nL) {ci index k kd i j : Nat} {C host : String} {T : u_T} {N : Nat} (hc : ch_cl[ci]? = some (C, T, N)) (hN : N = ch_size ci) (hin : ∀ w ∈ u_ws C T N, w ∈ ch_GL) (hk : ch_kd kd = .inl ci) (hv : S.2.1 k kd i) (hj : j < N) (hr : ch_rs ci j = false) (hw : (own, index, (T j).1, (T j).2.1, (T j).2.2.1, host) ∈ ch_nfl)
    (hd : decode cc pc = .ok (.getfield index, 3)) (kk : ch_W X E nL S μ kc ks (pc + 3) L (.int (μ k kd i j) :: st)) : ch_W X E nL S μ kc ks pc L (.ref (S.1 k kd i) :: st) := by
  refine oa_getv h hc hN hin hk hv hj hw hd ?_
  unfold ch_v
  rw [if_neg (by rw [hr]; decide)]
  exact kk
theorem oa_getr (h : ch_H X E own cc nL) {ci index k kd i j : Nat} {C host : String} {T : u_T} {N : Nat} {r : Option Nat} (hc : ch_cl[ci]? = some (C, T, N)) (hN : N = ch_size ci) (hin : ∀ w ∈ u_ws C T N, w ∈ ch_GL) (hk : ch_kd kd = .inl ci) (hv : S.2.1 k kd i) (hj : j < N) (hr : ch_rs ci j = true) (hw : (own, index, (T j).1, (T j).2.1, (T j).2.2.1, host) ∈ ch_nfl)
    (hx : S.2.2 k kd i j = r) (hd : decode cc pc = .ok (.getfield index, 3)) (kk : ch_W X E nL S μ kc ks (pc + 3) L (va_rf r :: st)) : ch_W X E nL S μ kc ks pc L (.ref (S.1 k kd i) :: st) := by
  refine oa_getv h hc hN hin hk hv hj hw hd ?_
  unfold ch_v
  rw [if_pos hr, hx]
  exact kk
theorem oa_puti (h : ch_H X E own cc nL) {ci index k kd i j : Nat} {C host : String} {T : u_T} {N : Nat} {x : Int32} {ty : FieldType} (hc : ch_cl[ci]? = some (C, T, N)) (hN : N = ch_size ci) (hin : ∀ w ∈ u_ws C T N, w ∈ ch_GL) (ty0 : Nat → FieldType) (hty : ∀ k, k < N → parseFieldDescriptor (T k).2.2.1 = some (ty0 k)) (hnm : ∀ a, a < N → ∀ b, b < N → a ≠ b → (T a).2.1 ≠ (T b).2.1) (hk : ch_kd kd = .inl ci) (hv : S.2.1 k kd i) (hj : j < N) (hr : ch_rs ci j = false) (hw : (own, index, (T j).1, (T j).2.1, (T j).2.2.1, host) ∈ ch_nfl)
    (hfin : (T j).2.2.2 = false) (hdc : parseFieldDescriptor (T j).2.2.1 = some ty) (hn : narrow ty (.int x) = .int x) (hfit : fits ty (.int x) = true) (hz : ch_zs ci j = false)
    (hd : decode cc pc = .ok (.putfield index, 3)) (kk : ch_W X E nL S (ch_st μ k kd i j x) kc ks (pc + 3) L st) : ch_W X E nL S μ kc ks pc L (.int x :: .ref (S.1 k kd i) :: st) := by
  intro H locs ls hI hS hl
  obtain ⟨cell, q1, q2, q3, q4⟩ := ch_field hI hv hk hc
  have hts : ∀ w ∈ ch_GL, w.before (x_a X) (x_s X) = true := h.2.2.2.1
  have hap := ch_apart h.2.2.2.2.1 hts hc hin ty0 hty hnm
  obtain ⟨hSl, hfc, kC, hkC, hkind⟩ := h.2.2.2.2.1.1.1 ci _ hc
  obtain ⟨cf, kf, fi, f, hi, hsl⟩ := hSl j hj
  have hlay := hts _ (hin _ (u_in_lay hj))
  unfold u_lay at hlay
  rw [if_neg (by rw [hfin]; decide)] at hlay
  have hst := (u_facts hfc hkC (u_lays hts hin hj) hi).1
  have h6 := u_store hfc hkC hkind hlay hi hdc hn hfit
  refine va_WputK h.1 h.2.1 (f := f) h.2.2.1 ((h.2.2.2.2.1.2.2.2.2.2.2.2.1.2 _ hw).use rfl) hi hst (by rw [q2]; exact h6) q1 q3 (by rw [hsl]; exact k2_hasslot (q4 j hj)) rfl rfl hd fun H' e1 e2 e3 => ?_
  rw [hsl] at e1 ⊢
  refine kk H' _ ls (ch_I_put hI hv ?_ e3 (fun ci' hc' hz' => ?_)) (hS.put e2 e3 (hI.2.2.1 _ _ _ hv)) hl
  · rw [ch_ct_o hk]
    refine ⟨_, hc, ?_⟩
    show t_OB (S.1 k kd i) (E.2.1.1 ci) N (E.2.1.2 ci) H' (vp_V (ch_fs S (ch_st μ k kd i j x) ci k kd i))
    rw [← ch_fs_set (by rw [← hN]; exact hj) hr]
    exact t_OB.to (V := updV (vp_V (ch_fs S μ ci k kd i)) j (.int x)) ⟨_, e1, q2, q3, t_set q4 hap hj (.int x)⟩ (fun j' _ => vp_updV_set (by simp [ch_fs]; rw [← hN]; exact hj) _ j')
  · cases hk.symm.trans hc'
    rw [hz] at hz'; cases hz'
/-- a reference stored into a field that is not final -/
theorem oa_putr (h : ch_H X E own cc nL) {ci index k kd i j v : Nat} {C : String} {T : u_T} {N : Nat} {ty : FieldType} (hc : ch_cl[ci]? = some (C, T, N)) (hN : N = ch_size ci) (hin : ∀ w ∈ u_ws C T N, w ∈ ch_GL) (ty0 : Nat → FieldType) (hty : ∀ k, k < N → parseFieldDescriptor (T k).2.2.1 = some (ty0 k)) (hnm : ∀ a, a < N → ∀ b, b < N → a ≠ b → (T a).2.1 ≠ (T b).2.1) (hk : ch_kd kd = .inl ci) (hv : S.2.1 k kd i) (hj : j < N) (hr : ch_rs ci j = true) (hw : Cond.fieldLink own index (T j).1 (T j).2.1 (T j).2.2.1 ∈ ch_GL)
    (hfin : (T j).2.2.2 = false) (hdc : parseFieldDescriptor (T j).2.2.1 = some ty) (hn : narrow ty (.ref v) = .ref v) (hfit : fits ty (.ref v) = true)
    (hd : decode cc pc = .ok (.putfield index, 3)) (kk : ch_W X E nL (s_rf S k kd i j v) μ kc ks (pc + 3) L st) : ch_W X E nL S μ kc ks pc L (.ref v :: .ref (S.1 k kd i) :: st) := by
  intro H locs ls hI hS hl
  obtain ⟨cell, q1, q2, q3, q4⟩ := ch_field hI hv hk hc
  have hts : ∀ w ∈ ch_GL, w.before (x_a X) (x_s X) = true := h.2.2.2.1
  have hap := ch_apart h.2.2.2.2.1 hts hc hin ty0 hty hnm
  obtain ⟨hSl, hfc, kC, hkC, hkind⟩ := h.2.2.2.2.1.1.1 ci _ hc
  obtain ⟨cf, kf, fi, f, hi, hsl⟩ := hSl j hj
  have hlay := hts _ (hin _ (u_in_lay hj))
  unfold u_lay at hlay
  rw [if_neg (by rw [hfin]; decide)] at hlay
  have hst := (u_facts hfc hkC (u_lays hts hin hj) hi).1
  have h6 := u_store hfc hkC hkind hlay hi hdc hn hfit
  refine W.putK h.1 h.2.1 (f := f) ⟨h.2.2.1, hts _ hw, ⟨_, _, _, hi⟩, hst⟩ (by rw [q2]; exact h6) q1 q3 (by rw [hsl]; exact k2_hasslot (q4 j hj)) rfl rfl hd fun H' e1 e2 e3 => ?_
  rw [hsl] at e1 ⊢
  refine kk H' _ ls (ch_I_rf hI hv ?_ e3) (hS.put e2 e3 (hI.2.2.1 _ _ _ hv)) hl
  rw [ch_ct_o hk]
  refine ⟨_, hc, ?_⟩
  show t_OB (S.1 k kd i) (E.2.1.1 ci) N (E.2.1.2 ci) H' (vp_V (ch_fs (s_rf S k kd i j v) μ ci k kd i))
  rw [← ch_fs_rf (by rw [← hN]; exact hj) hr]
  exact t_OB.to (V := updV (vp_V (ch_fs S μ ci k kd i)) j (.ref v)) ⟨_, e1, q2, q3, t_set q4 hap hj (.ref v)⟩ (fun j' _ => vp_updV_set (by simp [ch_fs]; rw [← hN]; exact hj) _ j')
theorem oa_dupx1 (h : ch_H X E own cc nL) {v w : Value} (hd : decode cc pc = .ok (.dup_x1, 1)) (hv : v.category = 1) (hw : w.category = 1) (k : ch_W X E nL S μ kc ks (pc + 1) L (v :: w :: v :: st)) : ch_W X E nL S μ kc ks pc L (v :: w :: st) :=
  fun H locs ls hI hS hl => lv_dup_x1 h.1 h.2.1 hd hv hw (k H locs ls hI hS hl)
theorem o_in {x : Int32} {j n : Nat} (hx : x = nI j) (hj : j < n) (hn : n ≤ 1000) : vp_in x n ∧ x.toNatClampNeg = j := by
  subst hx
  have e := nI_clamp (show j < 2 ^ 31 by omega)
  refine ⟨fun z => ?_, e⟩
  rcases z with z | z
  · exact nI_pos (by omega) z
  · rw [e] at z; omega
theorem oa_iald (h : ch_H X E own cc nL) {k kd i n : Nat} {x : Int32} {j : Nat} (hk : ch_kd kd = .inr (0, 0, n)) (hv : S.2.1 k kd i) (hx : x = nI j) (hj : j < n) (hn : Nat.ble n 1000 = true) (hd : decode cc pc = .ok (.iaload, 1)) (kk : ch_W X E nL S μ kc ks (pc + 1) L (.int (μ k kd i j) :: st)) : ch_W X E nL S μ kc ks pc L (.int x :: .ref (S.1 k kd i) :: st) := by
  have hi := o_in hx hj (Nat.le_of_ble_eq_true hn)
  refine ca_iald h hk hv hi.1 hd ?_
  rw [hi.2]; exact kk
theorem oa_iast (h : ch_H X E own cc nL) {k kd i n : Nat} {x y : Int32} {j : Nat} (hk : ch_kd kd = .inr (0, 0, n)) (hv : S.2.1 k kd i) (hx : x = nI j) (hj : j < n) (hn : Nat.ble n 1000 = true) (hd : decode cc pc = .ok (.iastore, 1)) (kk : ch_W X E nL S (ch_st μ k kd i j y) kc ks (pc + 1) L st) : ch_W X E nL S μ kc ks pc L (.int y :: .int x :: .ref (S.1 k kd i) :: st) := by
  have hi := o_in hx hj (Nat.le_of_ble_eq_true hn)
  refine ca_iast h hk hv hi.1 hd ?_
  rw [hi.2]; exact kk
/-- the same where the length is a variable -/
theorem oa_ialdN (h : ch_H X E own cc nL) {k kd i n : Nat} {x : Int32} {j : Nat} (hk : ch_kd kd = .inr (0, 0, n)) (hv : S.2.1 k kd i) (hx : x = nI j) (hj : j < n) (hn : n ≤ 1000) (hd : decode cc pc = .ok (.iaload, 1)) (kk : ch_W X E nL S μ kc ks (pc + 1) L (.int (μ k kd i j) :: st)) : ch_W X E nL S μ kc ks pc L (.int x :: .ref (S.1 k kd i) :: st) := by
  have hi := o_in hx hj hn
  refine ca_iald h hk hv hi.1 hd ?_
  rw [hi.2]; exact kk
theorem oa_iastN (h : ch_H X E own cc nL) {k kd i n : Nat} {x y : Int32} {j : Nat} (hk : ch_kd kd = .inr (0, 0, n)) (hv : S.2.1 k kd i) (hx : x = nI j) (hj : j < n) (hn : n ≤ 1000) (hd : decode cc pc = .ok (.iastore, 1)) (kk : ch_W X E nL S (ch_st μ k kd i j y) kc ks (pc + 1) L st) : ch_W X E nL S μ kc ks pc L (.int y :: .int x :: .ref (S.1 k kd i) :: st) := by
  have hi := o_in hx hj hn
  refine ca_iast h hk hv hi.1 hd ?_
  rw [hi.2]; exact kk
theorem oa_alen (h : ch_H X E own cc nL) {k kd i n : Nat} {v : Int32} (hk : ch_kd kd = .inr (0, 0, n)) (hv : S.2.1 k kd i) (hn : nI n = v) (hd : decode cc pc = .ok (.arraylength, 1)) (kk : ch_W X E nL S μ kc ks (pc + 1) L (.int v :: st)) : ch_W X E nL S μ kc ks pc L (.ref (S.1 k kd i) :: st) :=
  ca_alen h hk (by decide) hv hn hd kk
/-- a reference out of an array of arrays, or of objects -/
theorem oa_aald (h : ch_H X E own cc nL) {k kd i t n : Nat} {x : Int32} {j : Nat} {r : Nat} (hk : ch_kd kd = .inr (t, 1, n)) (ht : t < 7) (hv : S.2.1 k kd i) (hx : x = nI j) (hj : j < n) (hn : Nat.ble n 1000 = true) (hr : S.2.2 k kd i j = some r) (hd : decode cc pc = .ok (.aaload, 1)) (kk : ch_W X E nL S μ kc ks (pc + 1) L (.ref r :: st)) : ch_W X E nL S μ kc ks pc L (.int x :: .ref (S.1 k kd i) :: st) := by
  have hi := o_in hx hj (Nat.le_of_ble_eq_true hn)
  intro H locs ls hI hS hl
  have hA := (ch_typ h.2.2.2.2.1 ht).1
  have hty : (ch_ty t).isReference = true ∨ t = 0 := by
    rcases (show t = 0 ∨ t = 1 ∨ t = 2 ∨ t = 3 ∨ t = 4 ∨ t = 5 ∨ t = 6 by omega) with rfl | rfl | rfl | rfl | rfl | rfl | rfl <;> first | exact Or.inr rfl | exact Or.inl rfl
  rcases hty with hty | rfl
  · exact W.aald (v := va_rf (S.2.2 k kd i x.toNatClampNeg)) (ty := ch_ty t) h.1 h.2.1 (ch_arrq hI hv hk) (hA n (fun j => va_rf (S.2.2 k kd i j))) hty (fun q => by cases q) (by show ¬ (x < 0 ∨ (arrV _ _ _).slots.size ≤ _); rw [arrV_size]; exact hi.1) (by show (arrV _ _ _).slots[_]? = _; rw [arrV_read _ _ (by rw [hi.2]; exact hj)]) rfl rfl hd (by rw [hi.2, hr]; exact kk H locs ls hI hS hl)
  · exfalso
    by_cases e : kd < 40
    · have : ∀ q, q < 40 → ∀ z, ch_kd q ≠ .inr (0, 1, z) := by
        intro q hq z e2
        have e3 : ∀ q, q < 40 → (match ch_kd q with | .inr (0, 1, _) => false | _ => true) = true := by decide
        have e4 := e3 q hq
        rw [e2] at e4; cases e4
      exact this kd e n hk
    · obtain ⟨q, rfl⟩ : ∃ q, kd = q + 40 := ⟨kd - 40, by omega⟩
      rw [ch_kdn] at hk; cases hk
/-- an int[] stored into an int[][] -/
theorem oa_astA (h : ch_H X E own cc nL) {k kd i n k2 kd2 i2 n2 v : Nat} {x : Int32} {j : Nat} (hk : ch_kd kd = .inr (5, 1, n)) (hv : S.2.1 k kd i) (hk2 : ch_kd kd2 = .inr (0, 0, n2)) (hv2 : S.2.1 k2 kd2 i2) (ev : S.1 k2 kd2 i2 = v) (hx : x = nI j) (hj : j < n) (hn : Nat.ble n 1000 = true) (hd : decode cc pc = .ok (.aastore, 1))
    (kk : ch_W X E nL (s_rf S k kd i j v) μ kc ks (pc + 1) L st) : ch_W X E nL S μ kc ks pc L (.ref v :: .int x :: .ref (S.1 k kd i) :: st) := by
  have hi := o_in hx hj (Nat.le_of_ble_eq_true hn)
  intro H locs ls hI hS hl'
  subst ev
  have h0 : ¬ x < 0 := fun q => hi.1 (Or.inl q)
  have hcell := hI.1 k kd i hv
  rw [ch_ct_q hk] at hcell
  have hcv := ch_arr (s := x_s X) hI hv2 hk2
  have h0r : (x_s X).vm.findClass ("[" ++ FieldType.int.toString) = some (E.2.2.1 0) := (ch_typ h.2.2.2.2.1 (t := 0) (by decide)).2
  have h5r : (x_s X).vm.findClass ("[" ++ (FieldType.array .int).toString) = some (E.2.2.1 5) := (ch_typ h.2.2.2.2.1 (t := 5) (by decide)).2
  obtain ⟨comp, cA2, kA, k3, -, k1, k2', k4⟩ := arrayOverA_spec h.2.2.2.2.1.2.1.2
  cases h5r.symm.trans k4
  have hcomp : comp = E.2.2.1 0 := Option.some.inj (k3.symm.trans h0r)
  subst hcomp
  obtain ⟨kE, hkE, -⟩ := Vm.findClass_spec k3
  refine W.aast h.1 h.2.1 hcell (fun q z => by cases z) (fun z => by cases z) k1 k2' rfl hkE ⟨h0, by show _ < (arrV _ _ _).slots.size; rw [arrV_size, hi.2]; exact hj⟩ hcv (fun q z => by cases z) hkE (va_asg _ _) rfl rfl hd fun H1 e z oq => ?_
  refine kk H1 _ ls (ch_I_rf hI hv ?_ oq) (hS.put z oq (hI.2.2.1 _ _ _ hv)) hl'
  rw [ch_ct_q hk]
  show H1[S.1 k kd i]? = some (vp_cell _ _)
  rw [e, hi.2]
  rw [vp_cell_q, vp_cell_q, arrV_store]
  congr 2
  funext q
  by_cases hq : q = j
  · subst hq
    simp [updV, s_rf, va_rf]
  · simp [updV, s_rf, hq]
/-- an object stored into an array of its class -/
theorem oa_astO (h : ch_H X E own cc nL) {k kd i t n k2 kd2 i2 ci v : Nat} {x : Int32} {r : vw_C} {j : Nat} (hk : ch_kd kd = .inr (t, 1, n)) (ht : t < 7) (hty : ch_ty t = .object r.1) (hv : S.2.1 k kd i) (hv2 : S.2.1 k2 kd2 i2) (hk2 : ch_kd kd2 = .inl ci) (hc : ch_cl[ci]? = some r) (ev : S.1 k2 kd2 i2 = v) (hx : x = nI j) (hj : j < n) (hn : Nat.ble n 1000 = true) (hd : decode cc pc = .ok (.aastore, 1))
    (kk : ch_W X E nL (s_rf S k kd i j v) μ kc ks (pc + 1) L st) : ch_W X E nL S μ kc ks pc L (.ref v :: .int x :: .ref (S.1 k kd i) :: st) := by
  have hi := o_in hx hj (Nat.le_of_ble_eq_true hn)
  exact ca_asto h hk ht hty hv hv2 hk2 hc rfl ev hi.1 hd (by rw [hi.2]; exact kk)
/-- what a new name leaves -/
def o_nw (k kd i : Nat) (S : ch_S) (μ : ch_M) (S' : ch_S) (μ' : ch_M) : Prop :=
  S'.2.1 k kd i ∧ (∀ j, μ' k kd i j = 0 ∧ S'.2.2 k kd i j = none) ∧ ∀ a b c, ¬ (a = k ∧ b = kd ∧ c = i) → S'.1 a b c = S.1 a b c ∧ (S'.2.1 a b c ↔ S.2.1 a b c) ∧ S'.2.2 a b c = S.2.2 a b c ∧ μ' a b c = μ a b c
theorem o_nw_mk (k kd i q : Nat) (S : ch_S) (μ : ch_M) : o_nw k kd i S μ (s_ad S k kd i q) (ch_z μ k kd i) :=
  ⟨s_ad_v _ _ _ _ _, fun j => ⟨by rw [ch_z_0], s_ad_0 _ _ _ _ _ _⟩, fun a b c e => ⟨s_ad_n e, ⟨fun z => z.resolve_right e, Or.inl⟩, s_ad_r e, ch_z_n e⟩⟩
theorem oa_newI (k kd i : Nat) {n : Nat} {x : Int32} (h : ch_H X E own cc nL) {D MC MS : Nat} (hG : ch_G X D MC MS) (hb : ch_bs X E S) (hk : ch_kd kd = .inr (0, 0, n)) (harr : Cond.arrayClass (newarray.typeOf .int) ∈ ch_GL) (hx : x = nI n) (hn : n ≤ 1000)
    (hkc : kc + 1 ≤ MC ∧ ks + n ≤ MS) (hd : decode cc pc = .ok (.newarray .int, 2)) (kk : ∀ (S' : ch_S) (μ' : ch_M), o_nw k kd i S μ S' μ' → ch_W X E nL S' μ' (kc + 1) (ks + n) (pc + 2) L (.ref (S'.1 k kd i) :: st)) : ch_W X E nL S μ kc ks pc L (.int x :: st) := by
  subst hx
  refine ca_newI h k kd i hG hb hk harr (nI_pos (n := n) (by omega)) (nI_clamp (n := n) (by omega)) (Nat.ble_eq_true_of_le (by omega)) hkc hd fun q => ?_
  have := kk _ _ (o_nw_mk k kd i q S μ)
  rw [s_ad_s] at this
  exact this
theorem oa_newO (k kd i : Nat) (h : ch_H X E own cc nL) {D MC MS idx ci : Nat} {C : String} {T : u_T} {N : Nat} (hG : ch_G X D MC MS) (hb : ch_bs X E S) (hc : ch_cl[ci]? = some (C, T, N)) (hN : N = ch_size ci) (hin : ∀ w ∈ u_ws C T N, w ∈ ch_GL) (ty : Nat → FieldType) (hty : ∀ j, j < N → parseFieldDescriptor (T j).2.2.1 = some (ty j)) (hv : ∀ j, j < N → defaultValue (ty j) = if ch_rs ci j = true then .null else .int 0) (hk : ch_kd kd = .inl ci)
    (hl : Cond.classLink own idx C ∈ ch_GL) (hi : Cond.instantiable C N ∈ ch_GL) (hini : Cond.initialized C ∈ ch_GL) (hkc : kc + 1 ≤ MC ∧ ks + N ≤ MS) (hd : decode cc pc = .ok (.new idx, 3)) (kk : ∀ (S' : ch_S) (μ' : ch_M), o_nw k kd i S μ S' μ' → ch_W X E nL S' μ' (kc + 1) (ks + N) (pc + 3) L (.ref (S'.1 k kd i) :: st)) : ch_W X E nL S μ kc ks pc L st := by
  refine ca_newO h k kd i hG hb hc hN hin ty hty hv hk hl hi hini hkc hd fun q => ?_
  have := kk _ _ (o_nw_mk k kd i q S μ)
  rw [s_ad_s] at this
  exact this
theorem oa_newQ (k kd i : Nat) (h : ch_H X E own cc nL) {D MC MS n t idx : Nat} {x : Int32} {C : String} (hG : ch_G X D MC MS) (hb : ch_bs X E S) (hk : ch_kd kd = .inr (t, 1, n)) (ht : t < 7) (hty : ch_ty t = .object C) (hcl : Cond.classLink own idx C ∈ ch_GL) (hao : C ∈ ch_ao) (hx : x = nI n) (hn : n ≤ 1000)
    (hkc : kc + 1 ≤ MC ∧ ks + n ≤ MS) (hd : decode cc pc = .ok (.anewarray idx, 3)) (kk : ∀ (S' : ch_S) (μ' : ch_M), o_nw k kd i S μ S' μ' → ch_W X E nL S' μ' (kc + 1) (ks + n) (pc + 3) L (.ref (S'.1 k kd i) :: st)) : ch_W X E nL S μ kc ks pc L (.int x :: st) := by
  subst hx
  refine ca_newQ h k kd i hG hb hk ht hty hcl hao (nI_pos (by omega)) (nI_clamp (by omega)) (Nat.ble_eq_true_of_le (by omega)) hkc hd fun q => ?_
  have := kk _ _ (o_nw_mk k kd i q S μ)
  rw [s_ad_s] at this
  exact this
/-- new int[n][] -/
theorem oa_newA (k kd i : Nat) (h : ch_H X E own cc nL) {D MC MS n idx : Nat} {x : Int32} (hG : ch_G X D MC MS) (hb : ch_bs X E S) (hk : ch_kd kd = .inr (5, 1, n)) (hcl : Cond.classLink own idx "[I" ∈ ch_GL) (hx : x = nI n) (hn : n ≤ 1000)
    (hkc : kc + 1 ≤ MC ∧ ks + n ≤ MS) (hd : decode cc pc = .ok (.anewarray idx, 3)) (kk : ∀ (S' : ch_S) (μ' : ch_M), o_nw k kd i S μ S' μ' → ch_W X E nL S' μ' (kc + 1) (ks + n) (pc + 3) L (.ref (S'.1 k kd i) :: st)) : ch_W X E nL S μ kc ks pc L (.int x :: st) := by
  have hq : ∀ q, ch_W X E nL (s_ad S k kd i q) (ch_z μ k kd i) (kc + 1) (ks + n) (pc + 3) L (.ref q :: st) := fun q => by
    have := kk _ _ (o_nw_mk k kd i q S μ)
    rw [s_ad_s] at this
    exact this
  subst hx
  have ecl := nI_clamp (show n < 2 ^ 31 by omega)
  intro H locs ls hI hS hl'
  have hts : ∀ w ∈ ch_GL, w.before (x_a X) (x_s X) = true := h.2.2.2.1
  refine W.anewA (t := .int) h.1 h.2.1 h.2.2.1 (hts _ hcl) h.2.2.2.2.1.2.1.2 rfl hd rfl (nI_pos (by omega)) (by rw [ecl]; omega) (Nat.le_trans hkc.1 hG.2.2.1) (by rw [ecl]; exact Nat.le_trans hkc.2 hG.2.2.2) fun cA kA comp f1 f2 f3 f4 => ?_
  rw [ecl]
  generalize hH1 : H.push ({ cls := cA, slots := Array.replicate n .null, vm := .none } : Cell) = H1
  have z1 : H1.size = H.size + 1 := by rw [← hH1, Array.size_push]
  have e1 : H1[H.size]? = some (arrV cA n (fun _ => .null)) := by rw [← hH1, Array.getElem?_push_size, ← arrV_new]
  have o1 : ∀ q : Nat, q < H.size → H1[q]? = H[q]? := fun q hq => by rw [← hH1, Array.getElem?_push, if_neg (Nat.ne_of_lt hq)]
  refine hq H.size H1 locs ls (ch_I_ad hI (ch_bs_le hb hI hS) ?_ o1) ⟨Nat.le_trans hS.1 (by omega), fun x h1 h2 => (o1 x (Nat.lt_of_lt_of_le h1 hS.1)).trans (hS.2.1 x h1 h2), hS.2.2⟩ hl'
  have hr : (x_s X).vm.findClass ("[" ++ (FieldType.array .int).toString) = some (E.2.2.1 5) := (ch_typ h.2.2.2.2.1 (t := 5) (by decide)).2
  have ec : E.2.2.1 5 = cA := Option.some.inj (hr.symm.trans f1)
  rw [ch_ct_q hk, ec]
  show H1[H.size]? = some (vp_cell _ _)
  have ef : (s_ad S k kd i H.size).2.2 k kd i = fun _ => none := by funext j; exact s_ad_0 _ _ _ _ _ _
  rw [ef, vp_cell_q]
  exact e1
theorem oa_aretI (h : ch_H X E own cc nL) {mc ms a : Nat} {t : FieldType} {Post : Option Value → ch_S → ch_M → Prop} (hR : ch_R X E (some (.array t)) mc ms Post) (hd : decode cc pc = .ok (.areturn, 1)) (hp : Post (some (.ref a)) S μ) : ch_W X E nL S μ mc ms pc L [.ref a] := by
  intro H locs ls hI hS hl
  exact hR.1 H locs _ (W.aret h.1 h.2.1 hR.2 (Or.inr ⟨_, rfl⟩) (Or.inr ⟨_, rfl⟩) (fun t ht hW => ⟨⟨_, S, μ, rfl, hp, by rw [ht]; exact hI⟩, hS.F ht⟩) hS.2.2 hd h.2.2.2.2.2.1)
/-- calls: the memory a term, or a post -/
theorem oa_V (h : ch_H X E own cc nL) {D MC MS idx d mc ms n maxL : Nat} {y : MethodName} {bytes : ByteArray} {ret : Option FieldType} {k kd i ci : Nat} {q : vw_C} {stk As : List Value} {Post : Option Value → ch_S → ch_M → Prop} (hG : ch_G X D MC MS) (hL : ch_LV own idx y bytes maxL ret n) (hM : ch_C E (x_l X) y bytes maxL ret d mc ms S μ (.ref (S.1 k kd i) :: As) Post) (hc : ch_cl[ci]? = some q) (hq : q.1 = y.cls) (hk : ch_kd kd = .inl ci) (hv : S.2.1 k kd i) (hstk : stk = As.reverse ++ .ref (S.1 k kd i) :: st)
    (hn : As.length = n) (hD : Nat.ble (d + 1) D = true) (hm : Nat.ble maxL 22 = true) (hkc : kc + mc ≤ MC ∧ ks + ms ≤ MS) (hst : Nat.ble (st.map fun v => v.category).sum 8 = true) (hd : decode cc pc = .ok (.invokevirtual idx, 3))
    (kk : ∀ (v : Option Value) (S' : ch_S) (μ' : ch_M), Post v S' μ' → ch_W X E nL S' μ' (kc + mc) (ks + ms) (pc + 3) L (v.toList ++ st)) : ch_W X E nL S μ kc ks pc L stk :=
  ca_callV h hG hL hM hc hq hk hv hstk hn hD hm hkc (Nat.le_of_ble_eq_true hst) hd kk
theorem oa_v (h : ch_H X E own cc nL) {D MC MS idx d n maxL : Nat} {y : MethodName} {bytes : ByteArray} {ret : Option FieldType} {k kd i ci : Nat} {q : vw_C} {stk As : List Value} {v : Option Value} {μ' : ch_M} (hG : ch_G X D MC MS) (hL : ch_LV own idx y bytes maxL ret n) (hM : ch_C E (x_l X) y bytes maxL ret d 0 0 S μ (.ref (S.1 k kd i) :: As) (ch_F v S μ')) (hc : ch_cl[ci]? = some q) (hq : q.1 = y.cls) (hk : ch_kd kd = .inl ci) (hv : S.2.1 k kd i) (hstk : stk = As.reverse ++ .ref (S.1 k kd i) :: st)
    (hn : As.length = n) (hD : Nat.ble (d + 1) D = true) (hm : Nat.ble maxL 22 = true) (hkc : kc ≤ MC ∧ ks ≤ MS) (hst : Nat.ble (st.map fun v => v.category).sum 8 = true) (hd : decode cc pc = .ok (.invokevirtual idx, 3))
    (kk : ch_W X E nL S μ' kc ks (pc + 3) L (v.toList ++ st)) : ch_W X E nL S μ kc ks pc L stk := ca_vx h hG hL hM hc hq hk hv hstk hn hD hm hkc hst hd kk
theorem oa_S (h : ch_H X E own cc nL) {D MC MS idx d mc ms n maxL : Nat} {y : MethodName} {bytes : ByteArray} {ret : Option FieldType} {stk As : List Value} {Post : Option Value → ch_S → ch_M → Prop} (hG : ch_G X D MC MS) (hL : ch_LS own idx y bytes maxL ret n) (hM : ch_C E (x_l X) y bytes maxL ret d mc ms S μ As Post) (hstk : stk = As.reverse ++ st)
    (hn : As.length = n) (hD : Nat.ble (d + 1) D = true) (hm : Nat.ble maxL 22 = true) (hkc : kc + mc ≤ MC ∧ ks + ms ≤ MS) (hst : Nat.ble (st.map fun v => v.category).sum 8 = true) (hd : decode cc pc = .ok (.invokestatic idx, 3))
    (kk : ∀ (v : Option Value) (S' : ch_S) (μ' : ch_M), Post v S' μ' → ch_W X E nL S' μ' (kc + mc) (ks + ms) (pc + 3) L (v.toList ++ st)) : ch_W X E nL S μ kc ks pc L stk :=
  ca_callS h hG hL hM hstk hn hD hm hkc (Nat.le_of_ble_eq_true hst) hd kk
theorem oa_s (h : ch_H X E own cc nL) {D MC MS idx d n maxL : Nat} {y : MethodName} {bytes : ByteArray} {ret : Option FieldType} {stk As : List Value} {v : Option Value} {μ' : ch_M} (hG : ch_G X D MC MS) (hL : ch_LS own idx y bytes maxL ret n) (hM : ch_C E (x_l X) y bytes maxL ret d 0 0 S μ As (ch_F v S μ')) (hstk : stk = As.reverse ++ st)
    (hn : As.length = n) (hD : Nat.ble (d + 1) D = true) (hm : Nat.ble maxL 22 = true) (hkc : kc ≤ MC ∧ ks ≤ MS) (hst : Nat.ble (st.map fun v => v.category).sum 8 = true) (hd : decode cc pc = .ok (.invokestatic idx, 3))
    (kk : ch_W X E nL S μ' kc ks (pc + 3) L (v.toList ++ st)) : ch_W X E nL S μ kc ks pc L stk := ca_sx h hG hL hM hstk hn hD hm hkc hst hd kk
theorem oa_N (h : ch_H X E own cc nL) {D MC MS idx d mc ms n maxL : Nat} {y : MethodName} {bytes : ByteArray} {ret : Option FieldType} {host : String} {k kd i ci : Nat} {q : vw_C} {stk As : List Value} {Post : Option Value → ch_S → ch_M → Prop} (hG : ch_G X D MC MS) (l1 : (own, idx, y, host) ∈ ch_nest) (l2 : Cond.instanceMethod y ∈ ch_GL) (l3 : Cond.selects y.cls y y ∈ ch_GL) (l4 : Cond.initialized y.cls ∈ ch_GL) (l5 : Cond.code y bytes maxL ret ∈ ch_GL) (l6 : y.cls ≠ "java/lang/invoke/MethodHandle" ∧ y.cls ≠ "java/lang/invoke/VarHandle" ∧ (parseMethodDescriptor y.desc).map (fun d => d.parameters.length) = some n) (hM : ch_C E (x_l X) y bytes maxL ret d mc ms S μ (.ref (S.1 k kd i) :: As) Post) (hc : ch_cl[ci]? = some q) (hq : q.1 = y.cls) (hk : ch_kd kd = .inl ci) (hv : S.2.1 k kd i) (hstk : stk = As.reverse ++ .ref (S.1 k kd i) :: st)
    (hn : As.length = n) (hD : Nat.ble (d + 1) D = true) (hm : Nat.ble maxL 22 = true) (hkc : kc + mc ≤ MC ∧ ks + ms ≤ MS) (hst : Nat.ble (st.map fun v => v.category).sum 8 = true) (hd : decode cc pc = .ok (.invokevirtual idx, 3))
    (kk : ∀ (v : Option Value) (S' : ch_S) (μ' : ch_M), Post v S' μ' → ch_W X E nL S' μ' (kc + mc) (ks + ms) (pc + 3) L (v.toList ++ st)) : ch_W X E nL S μ kc ks pc L stk := by
  intro H locs ls hI hS hl
  have hts := h.2.2.2.1
  have h1 := Nat.le_of_ble_eq_true hD
  have h2 := Nat.le_of_ble_eq_true hm
  subst hstk
  refine ch_back (a := (Value.ref (S.1 k kd i) :: As).toArray) hS hl (va_runVN (Ts := ch_GL) (own := own) (C := y.cls) (b := S.1 k kd i) (As := As) (rest := st) ⟨h.1, h.2.1, h.2.2.2.2.2.2, h.2.2.1, hts⟩ hM ⟨va_cnB (Ts := ch_GL) n hts (ch_good (fun w hw => (List.mem_cons.mp hw).elim (fun e => by rw [e]; exact l5) id)) rfl rfl rfl (h.2.2.2.2.1.2.2.2.2.2.2.2.1.1 _ l1) (hts _ l4) l6 ⟨Nat.le_trans h1 hG.1, ?_⟩, hts _ l2, hts _ l3⟩ ⟨ch_blind, ?_, fun U hU hW => ⟨rfl, ch_ready h hI hS U hU hW⟩⟩ rfl hn hl.1 rfl (lv_room (m := x_m X) (pc := pc) (ls := ls) (Nat.le_of_ble_eq_true hst)) hd ⟨Nat.le_trans hkc.1 hG.2.2.1, Nat.le_trans hkc.2 hG.2.2.2⟩) kk
  · have h3 := hG.2.1
    show 8 + (maxL + 11) + 41 * d ≤ _
    omega
  · obtain ⟨cell, g1, g2, g3, -⟩ := ch_field hI hv hk hc
    exact ⟨cell, g1, by rw [g3]; rfl, by rw [g2, ← hq]; exact (h.2.2.2.2.1.1.1 ci q hc).2.1⟩
theorem oa_n (h : ch_H X E own cc nL) {D MC MS idx d n maxL : Nat} {y : MethodName} {bytes : ByteArray} {ret : Option FieldType} {host : String} {k kd i ci : Nat} {q : vw_C} {stk As : List Value} {v : Option Value} {μ' : ch_M} (hG : ch_G X D MC MS) (l1 : (own, idx, y, host) ∈ ch_nest) (l2 : Cond.instanceMethod y ∈ ch_GL) (l3 : Cond.selects y.cls y y ∈ ch_GL) (l4 : Cond.initialized y.cls ∈ ch_GL) (l5 : Cond.code y bytes maxL ret ∈ ch_GL) (l6 : y.cls ≠ "java/lang/invoke/MethodHandle" ∧ y.cls ≠ "java/lang/invoke/VarHandle" ∧ (parseMethodDescriptor y.desc).map (fun d => d.parameters.length) = some n) (hM : ch_C E (x_l X) y bytes maxL ret d 0 0 S μ (.ref (S.1 k kd i) :: As) (ch_F v S μ')) (hc : ch_cl[ci]? = some q) (hq : q.1 = y.cls) (hk : ch_kd kd = .inl ci) (hv : S.2.1 k kd i) (hstk : stk = As.reverse ++ .ref (S.1 k kd i) :: st)
    (hn : As.length = n) (hD : Nat.ble (d + 1) D = true) (hm : Nat.ble maxL 22 = true) (hkc : kc ≤ MC ∧ ks ≤ MS) (hst : Nat.ble (st.map fun v => v.category).sum 8 = true) (hd : decode cc pc = .ok (.invokevirtual idx, 3))
    (kk : ch_W X E nL S μ' kc ks (pc + 3) L (v.toList ++ st)) : ch_W X E nL S μ kc ks pc L stk :=
  oa_N h hG l1 l2 l3 l4 l5 l6 hM hc hq hk hv hstk hn hD hm hkc hst hd (fun v' S' m' hp => by obtain ⟨rfl, rfl, rfl⟩ := hp; exact kk)
end ORows
theorem gi_L_31 {X : ch_X} {E : ch_E} {cc : ByteArray} {nL : Nat} {S : ch_S} {μ : ch_M} {kc ks pc : Nat} {L : List (Nat × Value)} {st : List Value} (h : ch_H X E RL cc nL) {k i : Nat} (hv : S.2.1 k 22 i) (hd : decode cc pc = .ok (.getfield 31, 3)) (kk : ch_W X E nL S μ kc ks (pc + 3) L (.int (μ k 22 i 0) :: st)) : ch_W X E nL S μ kc ks pc L (.ref (S.1 k 22 i) :: st) :=
  oa_geti (ci := 13) (j := 0) (host := "CellHandoverLaw") h rfl rfl li_X13 rfl hv (by decide) rfl (List.mem_of_getElem? (i := 0) rfl) hd kk
theorem pi_L_31 {X : ch_X} {E : ch_E} {cc : ByteArray} {nL : Nat} {S : ch_S} {μ : ch_M} {kc ks pc : Nat} {L : List (Nat × Value)} {st : List Value} (h : ch_H X E RL cc nL) {k i : Nat} {x : Int32} (hv : S.2.1 k 22 i) (hd : decode cc pc = .ok (.putfield 31, 3)) (kk : ch_W X E nL S (ch_st μ k 22 i 0 x) kc ks (pc + 3) L st) : ch_W X E nL S μ kc ks pc L (.int x :: .ref (S.1 k 22 i) :: st) :=
  oa_puti (ci := 13) (j := 0) (ty := .int) (host := "CellHandoverLaw") h rfl rfl li_X13 tyX13 tyX13_ok nmX13 rfl hv (by decide) rfl (List.mem_of_getElem? (i := 0) rfl) rfl (by decide +kernel) rfl rfl rfl hd kk
theorem gr_L_35 {X : ch_X} {E : ch_E} {cc : ByteArray} {nL : Nat} {S : ch_S} {μ : ch_M} {kc ks pc : Nat} {L : List (Nat × Value)} {st : List Value} (h : ch_H X E RL cc nL) {k i : Nat} {r : Option Nat} (hv : S.2.1 k 22 i) (hx : S.2.2 k 22 i 9 = r) (hd : decode cc pc = .ok (.getfield 35, 3)) (kk : ch_W X E nL S μ kc ks (pc + 3) L (va_rf r :: st)) : ch_W X E nL S μ kc ks pc L (.ref (S.1 k 22 i) :: st) :=
  oa_getr (ci := 13) (j := 9) (host := "CellHandoverLaw") h rfl rfl li_X13 rfl hv (by decide) rfl (List.mem_of_getElem? (i := 8) rfl) hx hd kk
theorem gr_L_38 {X : ch_X} {E : ch_E} {cc : ByteArray} {nL : Nat} {S : ch_S} {μ : ch_M} {kc ks pc : Nat} {L : List (Nat × Value)} {st : List Value} (h : ch_H X E RL cc nL) {k i : Nat} {r : Option Nat} (hv : S.2.1 k 22 i) (hx : S.2.2 k 22 i 10 = r) (hd : decode cc pc = .ok (.getfield 38, 3)) (kk : ch_W X E nL S μ kc ks (pc + 3) L (va_rf r :: st)) : ch_W X E nL S μ kc ks pc L (.ref (S.1 k 22 i) :: st) :=
  oa_getr (ci := 13) (j := 10) (host := "CellHandoverLaw") h rfl rfl li_X13 rfl hv (by decide) rfl (List.mem_of_getElem? (i := 9) rfl) hx hd kk
theorem gi_L_41 {X : ch_X} {E : ch_E} {cc : ByteArray} {nL : Nat} {S : ch_S} {μ : ch_M} {kc ks pc : Nat} {L : List (Nat × Value)} {st : List Value} (h : ch_H X E RL cc nL) {k i : Nat} (hv : S.2.1 k 22 i) (hd : decode cc pc = .ok (.getfield 41, 3)) (kk : ch_W X E nL S μ kc ks (pc + 3) L (.int (μ k 22 i 3) :: st)) : ch_W X E nL S μ kc ks pc L (.ref (S.1 k 22 i) :: st) :=
  oa_geti (ci := 13) (j := 3) (host := "CellHandoverLaw") h rfl rfl li_X13 rfl hv (by decide) rfl (List.mem_of_getElem? (i := 2) rfl) hd kk
theorem pi_L_41 {X : ch_X} {E : ch_E} {cc : ByteArray} {nL : Nat} {S : ch_S} {μ : ch_M} {kc ks pc : Nat} {L : List (Nat × Value)} {st : List Value} (h : ch_H X E RL cc nL) {k i : Nat} {x : Int32} (hv : S.2.1 k 22 i) (hd : decode cc pc = .ok (.putfield 41, 3)) (kk : ch_W X E nL S (ch_st μ k 22 i 3 x) kc ks (pc + 3) L st) : ch_W X E nL S μ kc ks pc L (.int x :: .ref (S.1 k 22 i) :: st) :=
  oa_puti (ci := 13) (j := 3) (ty := .int) (host := "CellHandoverLaw") h rfl rfl li_X13 tyX13 tyX13_ok nmX13 rfl hv (by decide) rfl (List.mem_of_getElem? (i := 2) rfl) rfl (by decide +kernel) rfl rfl rfl hd kk
theorem gi_L_44 {X : ch_X} {E : ch_E} {cc : ByteArray} {nL : Nat} {S : ch_S} {μ : ch_M} {kc ks pc : Nat} {L : List (Nat × Value)} {st : List Value} (h : ch_H X E RL cc nL) {k i : Nat} (hv : S.2.1 k 22 i) (hd : decode cc pc = .ok (.getfield 44, 3)) (kk : ch_W X E nL S μ kc ks (pc + 3) L (.int (μ k 22 i 4) :: st)) : ch_W X E nL S μ kc ks pc L (.ref (S.1 k 22 i) :: st) :=
  oa_geti (ci := 13) (j := 4) (host := "CellHandoverLaw") h rfl rfl li_X13 rfl hv (by decide) rfl (List.mem_of_getElem? (i := 3) rfl) hd kk
theorem pi_L_44 {X : ch_X} {E : ch_E} {cc : ByteArray} {nL : Nat} {S : ch_S} {μ : ch_M} {kc ks pc : Nat} {L : List (Nat × Value)} {st : List Value} (h : ch_H X E RL cc nL) {k i : Nat} {x : Int32} (hv : S.2.1 k 22 i) (hd : decode cc pc = .ok (.putfield 44, 3)) (kk : ch_W X E nL S (ch_st μ k 22 i 4 x) kc ks (pc + 3) L st) : ch_W X E nL S μ kc ks pc L (.int x :: .ref (S.1 k 22 i) :: st) :=
  oa_puti (ci := 13) (j := 4) (ty := .int) (host := "CellHandoverLaw") h rfl rfl li_X13 tyX13 tyX13_ok nmX13 rfl hv (by decide) rfl (List.mem_of_getElem? (i := 3) rfl) rfl (by decide +kernel) rfl rfl rfl hd kk
theorem gi_L_47 {X : ch_X} {E : ch_E} {cc : ByteArray} {nL : Nat} {S : ch_S} {μ : ch_M} {kc ks pc : Nat} {L : List (Nat × Value)} {st : List Value} (h : ch_H X E RL cc nL) {k i : Nat} (hv : S.2.1 k 22 i) (hd : decode cc pc = .ok (.getfield 47, 3)) (kk : ch_W X E nL S μ kc ks (pc + 3) L (.int (μ k 22 i 5) :: st)) : ch_W X E nL S μ kc ks pc L (.ref (S.1 k 22 i) :: st) :=
  oa_geti (ci := 13) (j := 5) (host := "CellHandoverLaw") h rfl rfl li_X13 rfl hv (by decide) rfl (List.mem_of_getElem? (i := 4) rfl) hd kk
theorem pi_L_47 {X : ch_X} {E : ch_E} {cc : ByteArray} {nL : Nat} {S : ch_S} {μ : ch_M} {kc ks pc : Nat} {L : List (Nat × Value)} {st : List Value} (h : ch_H X E RL cc nL) {k i : Nat} {x : Int32} (hv : S.2.1 k 22 i) (hd : decode cc pc = .ok (.putfield 47, 3)) (kk : ch_W X E nL S (ch_st μ k 22 i 5 x) kc ks (pc + 3) L st) : ch_W X E nL S μ kc ks pc L (.int x :: .ref (S.1 k 22 i) :: st) :=
  oa_puti (ci := 13) (j := 5) (ty := .int) (host := "CellHandoverLaw") h rfl rfl li_X13 tyX13 tyX13_ok nmX13 rfl hv (by decide) rfl (List.mem_of_getElem? (i := 4) rfl) rfl (by decide +kernel) rfl rfl rfl hd kk
theorem gi_L_50 {X : ch_X} {E : ch_E} {cc : ByteArray} {nL : Nat} {S : ch_S} {μ : ch_M} {kc ks pc : Nat} {L : List (Nat × Value)} {st : List Value} (h : ch_H X E RL cc nL) {k i : Nat} (hv : S.2.1 k 22 i) (hd : decode cc pc = .ok (.getfield 50, 3)) (kk : ch_W X E nL S μ kc ks (pc + 3) L (.int (μ k 22 i 6) :: st)) : ch_W X E nL S μ kc ks pc L (.ref (S.1 k 22 i) :: st) :=
  oa_geti (ci := 13) (j := 6) (host := "CellHandoverLaw") h rfl rfl li_X13 rfl hv (by decide) rfl (List.mem_of_getElem? (i := 5) rfl) hd kk
theorem pi_L_50 {X : ch_X} {E : ch_E} {cc : ByteArray} {nL : Nat} {S : ch_S} {μ : ch_M} {kc ks pc : Nat} {L : List (Nat × Value)} {st : List Value} (h : ch_H X E RL cc nL) {k i : Nat} {x : Int32} (hv : S.2.1 k 22 i) (hd : decode cc pc = .ok (.putfield 50, 3)) (kk : ch_W X E nL S (ch_st μ k 22 i 6 x) kc ks (pc + 3) L st) : ch_W X E nL S μ kc ks pc L (.int x :: .ref (S.1 k 22 i) :: st) :=
  oa_puti (ci := 13) (j := 6) (ty := .int) (host := "CellHandoverLaw") h rfl rfl li_X13 tyX13 tyX13_ok nmX13 rfl hv (by decide) rfl (List.mem_of_getElem? (i := 5) rfl) rfl (by decide +kernel) rfl rfl rfl hd kk
theorem gi_L_53 {X : ch_X} {E : ch_E} {cc : ByteArray} {nL : Nat} {S : ch_S} {μ : ch_M} {kc ks pc : Nat} {L : List (Nat × Value)} {st : List Value} (h : ch_H X E RL cc nL) {k i : Nat} (hv : S.2.1 k 22 i) (hd : decode cc pc = .ok (.getfield 53, 3)) (kk : ch_W X E nL S μ kc ks (pc + 3) L (.int (μ k 22 i 7) :: st)) : ch_W X E nL S μ kc ks pc L (.ref (S.1 k 22 i) :: st) :=
  oa_geti (ci := 13) (j := 7) (host := "CellHandoverLaw") h rfl rfl li_X13 rfl hv (by decide) rfl (List.mem_of_getElem? (i := 6) rfl) hd kk
theorem pi_L_53 {X : ch_X} {E : ch_E} {cc : ByteArray} {nL : Nat} {S : ch_S} {μ : ch_M} {kc ks pc : Nat} {L : List (Nat × Value)} {st : List Value} (h : ch_H X E RL cc nL) {k i : Nat} {x : Int32} (hv : S.2.1 k 22 i) (hd : decode cc pc = .ok (.putfield 53, 3)) (kk : ch_W X E nL S (ch_st μ k 22 i 7 x) kc ks (pc + 3) L st) : ch_W X E nL S μ kc ks pc L (.int x :: .ref (S.1 k 22 i) :: st) :=
  oa_puti (ci := 13) (j := 7) (ty := .int) (host := "CellHandoverLaw") h rfl rfl li_X13 tyX13 tyX13_ok nmX13 rfl hv (by decide) rfl (List.mem_of_getElem? (i := 6) rfl) rfl (by decide +kernel) rfl rfl rfl hd kk
theorem gi_L_56 {X : ch_X} {E : ch_E} {cc : ByteArray} {nL : Nat} {S : ch_S} {μ : ch_M} {kc ks pc : Nat} {L : List (Nat × Value)} {st : List Value} (h : ch_H X E RL cc nL) {k i : Nat} (hv : S.2.1 k 22 i) (hd : decode cc pc = .ok (.getfield 56, 3)) (kk : ch_W X E nL S μ kc ks (pc + 3) L (.int (μ k 22 i 8) :: st)) : ch_W X E nL S μ kc ks pc L (.ref (S.1 k 22 i) :: st) :=
  oa_geti (ci := 13) (j := 8) (host := "CellHandoverLaw") h rfl rfl li_X13 rfl hv (by decide) rfl (List.mem_of_getElem? (i := 7) rfl) hd kk
theorem pi_L_56 {X : ch_X} {E : ch_E} {cc : ByteArray} {nL : Nat} {S : ch_S} {μ : ch_M} {kc ks pc : Nat} {L : List (Nat × Value)} {st : List Value} (h : ch_H X E RL cc nL) {k i : Nat} {x : Int32} (hv : S.2.1 k 22 i) (hd : decode cc pc = .ok (.putfield 56, 3)) (kk : ch_W X E nL S (ch_st μ k 22 i 8 x) kc ks (pc + 3) L st) : ch_W X E nL S μ kc ks pc L (.int x :: .ref (S.1 k 22 i) :: st) :=
  oa_puti (ci := 13) (j := 8) (ty := .int) (host := "CellHandoverLaw") h rfl rfl li_X13 tyX13 tyX13_ok nmX13 rfl hv (by decide) rfl (List.mem_of_getElem? (i := 7) rfl) rfl (by decide +kernel) rfl rfl rfl hd kk
theorem gi_L_105 {X : ch_X} {E : ch_E} {cc : ByteArray} {nL : Nat} {S : ch_S} {μ : ch_M} {kc ks pc : Nat} {L : List (Nat × Value)} {st : List Value} (h : ch_H X E RL cc nL) {k i : Nat} (hv : S.2.1 k 22 i) (hd : decode cc pc = .ok (.getfield 105, 3)) (kk : ch_W X E nL S μ kc ks (pc + 3) L (.int (μ k 22 i 1) :: st)) : ch_W X E nL S μ kc ks pc L (.ref (S.1 k 22 i) :: st) :=
  oa_geti (ci := 13) (j := 1) (host := "CellHandoverLaw") h rfl rfl li_X13 rfl hv (by decide) rfl (List.mem_of_getElem? (i := 1) rfl) hd kk
theorem pi_L_105 {X : ch_X} {E : ch_E} {cc : ByteArray} {nL : Nat} {S : ch_S} {μ : ch_M} {kc ks pc : Nat} {L : List (Nat × Value)} {st : List Value} (h : ch_H X E RL cc nL) {k i : Nat} {x : Int32} (hv : S.2.1 k 22 i) (hd : decode cc pc = .ok (.putfield 105, 3)) (kk : ch_W X E nL S (ch_st μ k 22 i 1 x) kc ks (pc + 3) L st) : ch_W X E nL S μ kc ks pc L (.int x :: .ref (S.1 k 22 i) :: st) :=
  oa_puti (ci := 13) (j := 1) (ty := .int) (host := "CellHandoverLaw") h rfl rfl li_X13 tyX13 tyX13_ok nmX13 rfl hv (by decide) rfl (List.mem_of_getElem? (i := 1) rfl) rfl (by decide +kernel) rfl rfl rfl hd kk
theorem gr_L_154 {X : ch_X} {E : ch_E} {cc : ByteArray} {nL : Nat} {S : ch_S} {μ : ch_M} {kc ks pc : Nat} {L : List (Nat × Value)} {st : List Value} (h : ch_H X E RL cc nL) {k i : Nat} {r : Option Nat} (hv : S.2.1 k 22 i) (hx : S.2.2 k 22 i 15 = r) (hd : decode cc pc = .ok (.getfield 154, 3)) (kk : ch_W X E nL S μ kc ks (pc + 3) L (va_rf r :: st)) : ch_W X E nL S μ kc ks pc L (.ref (S.1 k 22 i) :: st) :=
  oa_getr (ci := 13) (j := 15) (host := "CellHandoverLaw") h rfl rfl li_X13 rfl hv (by decide) rfl (List.mem_of_getElem? (i := 10) rfl) hx hd kk
theorem gi_L_161 {X : ch_X} {E : ch_E} {cc : ByteArray} {nL : Nat} {S : ch_S} {μ : ch_M} {kc ks pc : Nat} {L : List (Nat × Value)} {st : List Value} (h : ch_H X E RL cc nL) {k i : Nat} (hv : S.2.1 k 23 i) (hd : decode cc pc = .ok (.getfield 161, 3)) (kk : ch_W X E nL S μ kc ks (pc + 3) L (.int (μ k 23 i 0) :: st)) : ch_W X E nL S μ kc ks pc L (.ref (S.1 k 23 i) :: st) :=
  oa_geti (ci := 12) (j := 0) (host := "CellHandoverLaw") h rfl rfl li_X12 rfl hv (by decide) rfl (List.mem_of_getElem? (i := 12) rfl) hd kk
theorem pi_L_161 {X : ch_X} {E : ch_E} {cc : ByteArray} {nL : Nat} {S : ch_S} {μ : ch_M} {kc ks pc : Nat} {L : List (Nat × Value)} {st : List Value} (h : ch_H X E RL cc nL) {k i : Nat} {x : Int32} (hv : S.2.1 k 23 i) (hd : decode cc pc = .ok (.putfield 161, 3)) (kk : ch_W X E nL S (ch_st μ k 23 i 0 x) kc ks (pc + 3) L st) : ch_W X E nL S μ kc ks pc L (.int x :: .ref (S.1 k 23 i) :: st) :=
  oa_puti (ci := 12) (j := 0) (ty := .int) (host := "CellHandoverLaw") h rfl rfl li_X12 tyX12 tyX12_ok nmX12 rfl hv (by decide) rfl (List.mem_of_getElem? (i := 12) rfl) rfl (by decide +kernel) rfl rfl rfl hd kk
theorem gi_L_168 {X : ch_X} {E : ch_E} {cc : ByteArray} {nL : Nat} {S : ch_S} {μ : ch_M} {kc ks pc : Nat} {L : List (Nat × Value)} {st : List Value} (h : ch_H X E RL cc nL) {k i : Nat} (hv : S.2.1 k 23 i) (hd : decode cc pc = .ok (.getfield 168, 3)) (kk : ch_W X E nL S μ kc ks (pc + 3) L (.int (μ k 23 i 1) :: st)) : ch_W X E nL S μ kc ks pc L (.ref (S.1 k 23 i) :: st) :=
  oa_geti (ci := 12) (j := 1) (host := "CellHandoverLaw") h rfl rfl li_X12 rfl hv (by decide) rfl (List.mem_of_getElem? (i := 14) rfl) hd kk
theorem pi_L_168 {X : ch_X} {E : ch_E} {cc : ByteArray} {nL : Nat} {S : ch_S} {μ : ch_M} {kc ks pc : Nat} {L : List (Nat × Value)} {st : List Value} (h : ch_H X E RL cc nL) {k i : Nat} {x : Int32} (hv : S.2.1 k 23 i) (hd : decode cc pc = .ok (.putfield 168, 3)) (kk : ch_W X E nL S (ch_st μ k 23 i 1 x) kc ks (pc + 3) L st) : ch_W X E nL S μ kc ks pc L (.int x :: .ref (S.1 k 23 i) :: st) :=
  oa_puti (ci := 12) (j := 1) (ty := .int) (host := "CellHandoverLaw") h rfl rfl li_X12 tyX12 tyX12_ok nmX12 rfl hv (by decide) rfl (List.mem_of_getElem? (i := 14) rfl) rfl (by decide +kernel) rfl rfl rfl hd kk
theorem gi_L_173 {X : ch_X} {E : ch_E} {cc : ByteArray} {nL : Nat} {S : ch_S} {μ : ch_M} {kc ks pc : Nat} {L : List (Nat × Value)} {st : List Value} (h : ch_H X E RL cc nL) {k i : Nat} (hv : S.2.1 k 23 i) (hd : decode cc pc = .ok (.getfield 173, 3)) (kk : ch_W X E nL S μ kc ks (pc + 3) L (.int (μ k 23 i 4) :: st)) : ch_W X E nL S μ kc ks pc L (.ref (S.1 k 23 i) :: st) :=
  oa_geti (ci := 12) (j := 4) (host := "CellHandoverLaw") h rfl rfl li_X12 rfl hv (by decide) rfl (List.mem_of_getElem? (i := 20) rfl) hd kk
theorem pi_L_173 {X : ch_X} {E : ch_E} {cc : ByteArray} {nL : Nat} {S : ch_S} {μ : ch_M} {kc ks pc : Nat} {L : List (Nat × Value)} {st : List Value} (h : ch_H X E RL cc nL) {k i : Nat} {x : Int32} (hv : S.2.1 k 23 i) (hd : decode cc pc = .ok (.putfield 173, 3)) (kk : ch_W X E nL S (ch_st μ k 23 i 4 x) kc ks (pc + 3) L st) : ch_W X E nL S μ kc ks pc L (.int x :: .ref (S.1 k 23 i) :: st) :=
  oa_puti (ci := 12) (j := 4) (ty := .int) (host := "CellHandoverLaw") h rfl rfl li_X12 tyX12 tyX12_ok nmX12 rfl hv (by decide) rfl (List.mem_of_getElem? (i := 20) rfl) rfl (by decide +kernel) rfl rfl rfl hd kk
theorem gi_L_217 {X : ch_X} {E : ch_E} {cc : ByteArray} {nL : Nat} {S : ch_S} {μ : ch_M} {kc ks pc : Nat} {L : List (Nat × Value)} {st : List Value} (h : ch_H X E RL cc nL) {k i : Nat} (hv : S.2.1 k 23 i) (hd : decode cc pc = .ok (.getfield 217, 3)) (kk : ch_W X E nL S μ kc ks (pc + 3) L (.int (μ k 23 i 2) :: st)) : ch_W X E nL S μ kc ks pc L (.ref (S.1 k 23 i) :: st) :=
  oa_geti (ci := 12) (j := 2) (host := "CellHandoverLaw") h rfl rfl li_X12 rfl hv (by decide) rfl (List.mem_of_getElem? (i := 15) rfl) hd kk
theorem pi_L_217 {X : ch_X} {E : ch_E} {cc : ByteArray} {nL : Nat} {S : ch_S} {μ : ch_M} {kc ks pc : Nat} {L : List (Nat × Value)} {st : List Value} (h : ch_H X E RL cc nL) {k i : Nat} {x : Int32} (hv : S.2.1 k 23 i) (hd : decode cc pc = .ok (.putfield 217, 3)) (kk : ch_W X E nL S (ch_st μ k 23 i 2 x) kc ks (pc + 3) L st) : ch_W X E nL S μ kc ks pc L (.int x :: .ref (S.1 k 23 i) :: st) :=
  oa_puti (ci := 12) (j := 2) (ty := .int) (host := "CellHandoverLaw") h rfl rfl li_X12 tyX12 tyX12_ok nmX12 rfl hv (by decide) rfl (List.mem_of_getElem? (i := 15) rfl) rfl (by decide +kernel) rfl rfl rfl hd kk
theorem gi_L_220 {X : ch_X} {E : ch_E} {cc : ByteArray} {nL : Nat} {S : ch_S} {μ : ch_M} {kc ks pc : Nat} {L : List (Nat × Value)} {st : List Value} (h : ch_H X E RL cc nL) {k i : Nat} (hv : S.2.1 k 23 i) (hd : decode cc pc = .ok (.getfield 220, 3)) (kk : ch_W X E nL S μ kc ks (pc + 3) L (.int (μ k 23 i 3) :: st)) : ch_W X E nL S μ kc ks pc L (.ref (S.1 k 23 i) :: st) :=
  oa_geti (ci := 12) (j := 3) (host := "CellHandoverLaw") h rfl rfl li_X12 rfl hv (by decide) rfl (List.mem_of_getElem? (i := 17) rfl) hd kk
theorem pi_L_220 {X : ch_X} {E : ch_E} {cc : ByteArray} {nL : Nat} {S : ch_S} {μ : ch_M} {kc ks pc : Nat} {L : List (Nat × Value)} {st : List Value} (h : ch_H X E RL cc nL) {k i : Nat} {x : Int32} (hv : S.2.1 k 23 i) (hd : decode cc pc = .ok (.putfield 220, 3)) (kk : ch_W X E nL S (ch_st μ k 23 i 3 x) kc ks (pc + 3) L st) : ch_W X E nL S μ kc ks pc L (.int x :: .ref (S.1 k 23 i) :: st) :=
  oa_puti (ci := 12) (j := 3) (ty := .int) (host := "CellHandoverLaw") h rfl rfl li_X12 tyX12 tyX12_ok nmX12 rfl hv (by decide) rfl (List.mem_of_getElem? (i := 17) rfl) rfl (by decide +kernel) rfl rfl rfl hd kk
theorem gi_X13_88 {X : ch_X} {E : ch_E} {cc : ByteArray} {nL : Nat} {S : ch_S} {μ : ch_M} {kc ks pc : Nat} {L : List (Nat × Value)} {st : List Value} (h : ch_H X E RX13 cc nL) {k i : Nat} (hv : S.2.1 k 23 i) (hd : decode cc pc = .ok (.getfield 88, 3)) (kk : ch_W X E nL S μ kc ks (pc + 3) L (.int (μ k 23 i 4) :: st)) : ch_W X E nL S μ kc ks pc L (.ref (S.1 k 23 i) :: st) :=
  oa_geti (ci := 12) (j := 4) (host := "CellHandoverLaw") h rfl rfl li_X12 rfl hv (by decide) rfl (List.mem_of_getElem? (i := 19) rfl) hd kk
theorem pi_X13_88 {X : ch_X} {E : ch_E} {cc : ByteArray} {nL : Nat} {S : ch_S} {μ : ch_M} {kc ks pc : Nat} {L : List (Nat × Value)} {st : List Value} (h : ch_H X E RX13 cc nL) {k i : Nat} {x : Int32} (hv : S.2.1 k 23 i) (hd : decode cc pc = .ok (.putfield 88, 3)) (kk : ch_W X E nL S (ch_st μ k 23 i 4 x) kc ks (pc + 3) L st) : ch_W X E nL S μ kc ks pc L (.int x :: .ref (S.1 k 23 i) :: st) :=
  oa_puti (ci := 12) (j := 4) (ty := .int) (host := "CellHandoverLaw") h rfl rfl li_X12 tyX12 tyX12_ok nmX12 rfl hv (by decide) rfl (List.mem_of_getElem? (i := 19) rfl) rfl (by decide +kernel) rfl rfl rfl hd kk
theorem gi_X13_91 {X : ch_X} {E : ch_E} {cc : ByteArray} {nL : Nat} {S : ch_S} {μ : ch_M} {kc ks pc : Nat} {L : List (Nat × Value)} {st : List Value} (h : ch_H X E RX13 cc nL) {k i : Nat} (hv : S.2.1 k 23 i) (hd : decode cc pc = .ok (.getfield 91, 3)) (kk : ch_W X E nL S μ kc ks (pc + 3) L (.int (μ k 23 i 5) :: st)) : ch_W X E nL S μ kc ks pc L (.ref (S.1 k 23 i) :: st) :=
  oa_geti (ci := 12) (j := 5) (host := "CellHandoverLaw") h rfl rfl li_X12 rfl hv (by decide) rfl (List.mem_of_getElem? (i := 21) rfl) hd kk
theorem pi_X13_91 {X : ch_X} {E : ch_E} {cc : ByteArray} {nL : Nat} {S : ch_S} {μ : ch_M} {kc ks pc : Nat} {L : List (Nat × Value)} {st : List Value} (h : ch_H X E RX13 cc nL) {k i : Nat} {x : Int32} (hv : S.2.1 k 23 i) (hd : decode cc pc = .ok (.putfield 91, 3)) (kk : ch_W X E nL S (ch_st μ k 23 i 5 x) kc ks (pc + 3) L st) : ch_W X E nL S μ kc ks pc L (.int x :: .ref (S.1 k 23 i) :: st) :=
  oa_puti (ci := 12) (j := 5) (ty := .int) (host := "CellHandoverLaw") h rfl rfl li_X12 tyX12 tyX12_ok nmX12 rfl hv (by decide) rfl (List.mem_of_getElem? (i := 21) rfl) rfl (by decide +kernel) rfl rfl rfl hd kk
theorem gi_X13_96 {X : ch_X} {E : ch_E} {cc : ByteArray} {nL : Nat} {S : ch_S} {μ : ch_M} {kc ks pc : Nat} {L : List (Nat × Value)} {st : List Value} (h : ch_H X E RX13 cc nL) {k i : Nat} (hv : S.2.1 k 23 i) (hd : decode cc pc = .ok (.getfield 96, 3)) (kk : ch_W X E nL S μ kc ks (pc + 3) L (.int (μ k 23 i 8) :: st)) : ch_W X E nL S μ kc ks pc L (.ref (S.1 k 23 i) :: st) :=
  oa_geti (ci := 12) (j := 8) (host := "CellHandoverLaw") h rfl rfl li_X12 rfl hv (by decide) rfl (List.mem_of_getElem? (i := 24) rfl) hd kk
theorem pi_X13_96 {X : ch_X} {E : ch_E} {cc : ByteArray} {nL : Nat} {S : ch_S} {μ : ch_M} {kc ks pc : Nat} {L : List (Nat × Value)} {st : List Value} (h : ch_H X E RX13 cc nL) {k i : Nat} {x : Int32} (hv : S.2.1 k 23 i) (hd : decode cc pc = .ok (.putfield 96, 3)) (kk : ch_W X E nL S (ch_st μ k 23 i 8 x) kc ks (pc + 3) L st) : ch_W X E nL S μ kc ks pc L (.int x :: .ref (S.1 k 23 i) :: st) :=
  oa_puti (ci := 12) (j := 8) (ty := .int) (host := "CellHandoverLaw") h rfl rfl li_X12 tyX12 tyX12_ok nmX12 rfl hv (by decide) rfl (List.mem_of_getElem? (i := 24) rfl) rfl (by decide +kernel) rfl rfl rfl hd kk
theorem gi_X13_102 {X : ch_X} {E : ch_E} {cc : ByteArray} {nL : Nat} {S : ch_S} {μ : ch_M} {kc ks pc : Nat} {L : List (Nat × Value)} {st : List Value} (h : ch_H X E RX13 cc nL) {k i : Nat} (hv : S.2.1 k 23 i) (hd : decode cc pc = .ok (.getfield 102, 3)) (kk : ch_W X E nL S μ kc ks (pc + 3) L (.int (μ k 23 i 9) :: st)) : ch_W X E nL S μ kc ks pc L (.ref (S.1 k 23 i) :: st) :=
  oa_geti (ci := 12) (j := 9) (host := "CellHandoverLaw") h rfl rfl li_X12 rfl hv (by decide) rfl (List.mem_of_getElem? (i := 25) rfl) hd kk
theorem pi_X13_102 {X : ch_X} {E : ch_E} {cc : ByteArray} {nL : Nat} {S : ch_S} {μ : ch_M} {kc ks pc : Nat} {L : List (Nat × Value)} {st : List Value} (h : ch_H X E RX13 cc nL) {k i : Nat} {x : Int32} (hv : S.2.1 k 23 i) (hd : decode cc pc = .ok (.putfield 102, 3)) (kk : ch_W X E nL S (ch_st μ k 23 i 9 x) kc ks (pc + 3) L st) : ch_W X E nL S μ kc ks pc L (.int x :: .ref (S.1 k 23 i) :: st) :=
  oa_puti (ci := 12) (j := 9) (ty := .int) (host := "CellHandoverLaw") h rfl rfl li_X12 tyX12 tyX12_ok nmX12 rfl hv (by decide) rfl (List.mem_of_getElem? (i := 25) rfl) rfl (by decide +kernel) rfl rfl rfl hd kk
theorem gi_X13_105 {X : ch_X} {E : ch_E} {cc : ByteArray} {nL : Nat} {S : ch_S} {μ : ch_M} {kc ks pc : Nat} {L : List (Nat × Value)} {st : List Value} (h : ch_H X E RX13 cc nL) {k i : Nat} (hv : S.2.1 k 23 i) (hd : decode cc pc = .ok (.getfield 105, 3)) (kk : ch_W X E nL S μ kc ks (pc + 3) L (.int (μ k 23 i 10) :: st)) : ch_W X E nL S μ kc ks pc L (.ref (S.1 k 23 i) :: st) :=
  oa_geti (ci := 12) (j := 10) (host := "CellHandoverLaw") h rfl rfl li_X12 rfl hv (by decide) rfl (List.mem_of_getElem? (i := 26) rfl) hd kk
theorem pi_X13_105 {X : ch_X} {E : ch_E} {cc : ByteArray} {nL : Nat} {S : ch_S} {μ : ch_M} {kc ks pc : Nat} {L : List (Nat × Value)} {st : List Value} (h : ch_H X E RX13 cc nL) {k i : Nat} {x : Int32} (hv : S.2.1 k 23 i) (hd : decode cc pc = .ok (.putfield 105, 3)) (kk : ch_W X E nL S (ch_st μ k 23 i 10 x) kc ks (pc + 3) L st) : ch_W X E nL S μ kc ks pc L (.int x :: .ref (S.1 k 23 i) :: st) :=
  oa_puti (ci := 12) (j := 10) (ty := .int) (host := "CellHandoverLaw") h rfl rfl li_X12 tyX12 tyX12_ok nmX12 rfl hv (by decide) rfl (List.mem_of_getElem? (i := 26) rfl) rfl (by decide +kernel) rfl rfl rfl hd kk
theorem gi_X13_108 {X : ch_X} {E : ch_E} {cc : ByteArray} {nL : Nat} {S : ch_S} {μ : ch_M} {kc ks pc : Nat} {L : List (Nat × Value)} {st : List Value} (h : ch_H X E RX13 cc nL) {k i : Nat} (hv : S.2.1 k 23 i) (hd : decode cc pc = .ok (.getfield 108, 3)) (kk : ch_W X E nL S μ kc ks (pc + 3) L (.int (μ k 23 i 0) :: st)) : ch_W X E nL S μ kc ks pc L (.ref (S.1 k 23 i) :: st) :=
  oa_geti (ci := 12) (j := 0) (host := "CellHandoverLaw") h rfl rfl li_X12 rfl hv (by decide) rfl (List.mem_of_getElem? (i := 11) rfl) hd kk
theorem pi_X13_108 {X : ch_X} {E : ch_E} {cc : ByteArray} {nL : Nat} {S : ch_S} {μ : ch_M} {kc ks pc : Nat} {L : List (Nat × Value)} {st : List Value} (h : ch_H X E RX13 cc nL) {k i : Nat} {x : Int32} (hv : S.2.1 k 23 i) (hd : decode cc pc = .ok (.putfield 108, 3)) (kk : ch_W X E nL S (ch_st μ k 23 i 0 x) kc ks (pc + 3) L st) : ch_W X E nL S μ kc ks pc L (.int x :: .ref (S.1 k 23 i) :: st) :=
  oa_puti (ci := 12) (j := 0) (ty := .int) (host := "CellHandoverLaw") h rfl rfl li_X12 tyX12 tyX12_ok nmX12 rfl hv (by decide) rfl (List.mem_of_getElem? (i := 11) rfl) rfl (by decide +kernel) rfl rfl rfl hd kk
theorem gi_X13_111 {X : ch_X} {E : ch_E} {cc : ByteArray} {nL : Nat} {S : ch_S} {μ : ch_M} {kc ks pc : Nat} {L : List (Nat × Value)} {st : List Value} (h : ch_H X E RX13 cc nL) {k i : Nat} (hv : S.2.1 k 23 i) (hd : decode cc pc = .ok (.getfield 111, 3)) (kk : ch_W X E nL S μ kc ks (pc + 3) L (.int (μ k 23 i 1) :: st)) : ch_W X E nL S μ kc ks pc L (.ref (S.1 k 23 i) :: st) :=
  oa_geti (ci := 12) (j := 1) (host := "CellHandoverLaw") h rfl rfl li_X12 rfl hv (by decide) rfl (List.mem_of_getElem? (i := 13) rfl) hd kk
theorem pi_X13_111 {X : ch_X} {E : ch_E} {cc : ByteArray} {nL : Nat} {S : ch_S} {μ : ch_M} {kc ks pc : Nat} {L : List (Nat × Value)} {st : List Value} (h : ch_H X E RX13 cc nL) {k i : Nat} {x : Int32} (hv : S.2.1 k 23 i) (hd : decode cc pc = .ok (.putfield 111, 3)) (kk : ch_W X E nL S (ch_st μ k 23 i 1 x) kc ks (pc + 3) L st) : ch_W X E nL S μ kc ks pc L (.int x :: .ref (S.1 k 23 i) :: st) :=
  oa_puti (ci := 12) (j := 1) (ty := .int) (host := "CellHandoverLaw") h rfl rfl li_X12 tyX12 tyX12_ok nmX12 rfl hv (by decide) rfl (List.mem_of_getElem? (i := 13) rfl) rfl (by decide +kernel) rfl rfl rfl hd kk
theorem gi_X13_125 {X : ch_X} {E : ch_E} {cc : ByteArray} {nL : Nat} {S : ch_S} {μ : ch_M} {kc ks pc : Nat} {L : List (Nat × Value)} {st : List Value} (h : ch_H X E RX13 cc nL) {k i : Nat} (hv : S.2.1 k 23 i) (hd : decode cc pc = .ok (.getfield 125, 3)) (kk : ch_W X E nL S μ kc ks (pc + 3) L (.int (μ k 23 i 6) :: st)) : ch_W X E nL S μ kc ks pc L (.ref (S.1 k 23 i) :: st) :=
  oa_geti (ci := 12) (j := 6) (host := "CellHandoverLaw") h rfl rfl li_X12 rfl hv (by decide) rfl (List.mem_of_getElem? (i := 22) rfl) hd kk
theorem pi_X13_125 {X : ch_X} {E : ch_E} {cc : ByteArray} {nL : Nat} {S : ch_S} {μ : ch_M} {kc ks pc : Nat} {L : List (Nat × Value)} {st : List Value} (h : ch_H X E RX13 cc nL) {k i : Nat} {x : Int32} (hv : S.2.1 k 23 i) (hd : decode cc pc = .ok (.putfield 125, 3)) (kk : ch_W X E nL S (ch_st μ k 23 i 6 x) kc ks (pc + 3) L st) : ch_W X E nL S μ kc ks pc L (.int x :: .ref (S.1 k 23 i) :: st) :=
  oa_puti (ci := 12) (j := 6) (ty := .int) (host := "CellHandoverLaw") h rfl rfl li_X12 tyX12 tyX12_ok nmX12 rfl hv (by decide) rfl (List.mem_of_getElem? (i := 22) rfl) rfl (by decide +kernel) rfl rfl rfl hd kk
theorem gr_X13_128 {X : ch_X} {E : ch_E} {cc : ByteArray} {nL : Nat} {S : ch_S} {μ : ch_M} {kc ks pc : Nat} {L : List (Nat × Value)} {st : List Value} (h : ch_H X E RX13 cc nL) {k i : Nat} {r : Option Nat} (hv : S.2.1 k 23 i) (hx : S.2.2 k 23 i 11 = r) (hd : decode cc pc = .ok (.getfield 128, 3)) (kk : ch_W X E nL S μ kc ks (pc + 3) L (va_rf r :: st)) : ch_W X E nL S μ kc ks pc L (.ref (S.1 k 23 i) :: st) :=
  oa_getr (ci := 12) (j := 11) (host := "CellHandoverLaw") h rfl rfl li_X12 rfl hv (by decide) rfl (List.mem_of_getElem? (i := 27) rfl) hx hd kk
theorem gi_X13_131 {X : ch_X} {E : ch_E} {cc : ByteArray} {nL : Nat} {S : ch_S} {μ : ch_M} {kc ks pc : Nat} {L : List (Nat × Value)} {st : List Value} (h : ch_H X E RX13 cc nL) {k i : Nat} (hv : S.2.1 k 23 i) (hd : decode cc pc = .ok (.getfield 131, 3)) (kk : ch_W X E nL S μ kc ks (pc + 3) L (.int (μ k 23 i 7) :: st)) : ch_W X E nL S μ kc ks pc L (.ref (S.1 k 23 i) :: st) :=
  oa_geti (ci := 12) (j := 7) (host := "CellHandoverLaw") h rfl rfl li_X12 rfl hv (by decide) rfl (List.mem_of_getElem? (i := 23) rfl) hd kk
theorem pi_X13_131 {X : ch_X} {E : ch_E} {cc : ByteArray} {nL : Nat} {S : ch_S} {μ : ch_M} {kc ks pc : Nat} {L : List (Nat × Value)} {st : List Value} (h : ch_H X E RX13 cc nL) {k i : Nat} {x : Int32} (hv : S.2.1 k 23 i) (hd : decode cc pc = .ok (.putfield 131, 3)) (kk : ch_W X E nL S (ch_st μ k 23 i 7 x) kc ks (pc + 3) L st) : ch_W X E nL S μ kc ks pc L (.int x :: .ref (S.1 k 23 i) :: st) :=
  oa_puti (ci := 12) (j := 7) (ty := .int) (host := "CellHandoverLaw") h rfl rfl li_X12 tyX12 tyX12_ok nmX12 rfl hv (by decide) rfl (List.mem_of_getElem? (i := 23) rfl) rfl (by decide +kernel) rfl rfl rfl hd kk
theorem gr_X13_134 {X : ch_X} {E : ch_E} {cc : ByteArray} {nL : Nat} {S : ch_S} {μ : ch_M} {kc ks pc : Nat} {L : List (Nat × Value)} {st : List Value} (h : ch_H X E RX13 cc nL) {k i : Nat} {r : Option Nat} (hv : S.2.1 k 23 i) (hx : S.2.2 k 23 i 12 = r) (hd : decode cc pc = .ok (.getfield 134, 3)) (kk : ch_W X E nL S μ kc ks (pc + 3) L (va_rf r :: st)) : ch_W X E nL S μ kc ks pc L (.ref (S.1 k 23 i) :: st) :=
  oa_getr (ci := 12) (j := 12) (host := "CellHandoverLaw") h rfl rfl li_X12 rfl hv (by decide) rfl (List.mem_of_getElem? (i := 28) rfl) hx hd kk
theorem gi_X13_148 {X : ch_X} {E : ch_E} {cc : ByteArray} {nL : Nat} {S : ch_S} {μ : ch_M} {kc ks pc : Nat} {L : List (Nat × Value)} {st : List Value} (h : ch_H X E RX13 cc nL) {k i : Nat} (hv : S.2.1 k 23 i) (hd : decode cc pc = .ok (.getfield 148, 3)) (kk : ch_W X E nL S μ kc ks (pc + 3) L (.int (μ k 23 i 2) :: st)) : ch_W X E nL S μ kc ks pc L (.ref (S.1 k 23 i) :: st) :=
  oa_geti (ci := 12) (j := 2) (host := "CellHandoverLaw") h rfl rfl li_X12 rfl hv (by decide) rfl (List.mem_of_getElem? (i := 16) rfl) hd kk
theorem pi_X13_148 {X : ch_X} {E : ch_E} {cc : ByteArray} {nL : Nat} {S : ch_S} {μ : ch_M} {kc ks pc : Nat} {L : List (Nat × Value)} {st : List Value} (h : ch_H X E RX13 cc nL) {k i : Nat} {x : Int32} (hv : S.2.1 k 23 i) (hd : decode cc pc = .ok (.putfield 148, 3)) (kk : ch_W X E nL S (ch_st μ k 23 i 2 x) kc ks (pc + 3) L st) : ch_W X E nL S μ kc ks pc L (.int x :: .ref (S.1 k 23 i) :: st) :=
  oa_puti (ci := 12) (j := 2) (ty := .int) (host := "CellHandoverLaw") h rfl rfl li_X12 tyX12 tyX12_ok nmX12 rfl hv (by decide) rfl (List.mem_of_getElem? (i := 16) rfl) rfl (by decide +kernel) rfl rfl rfl hd kk
theorem gi_X13_151 {X : ch_X} {E : ch_E} {cc : ByteArray} {nL : Nat} {S : ch_S} {μ : ch_M} {kc ks pc : Nat} {L : List (Nat × Value)} {st : List Value} (h : ch_H X E RX13 cc nL) {k i : Nat} (hv : S.2.1 k 23 i) (hd : decode cc pc = .ok (.getfield 151, 3)) (kk : ch_W X E nL S μ kc ks (pc + 3) L (.int (μ k 23 i 3) :: st)) : ch_W X E nL S μ kc ks pc L (.ref (S.1 k 23 i) :: st) :=
  oa_geti (ci := 12) (j := 3) (host := "CellHandoverLaw") h rfl rfl li_X12 rfl hv (by decide) rfl (List.mem_of_getElem? (i := 18) rfl) hd kk
theorem pi_X13_151 {X : ch_X} {E : ch_E} {cc : ByteArray} {nL : Nat} {S : ch_S} {μ : ch_M} {kc ks pc : Nat} {L : List (Nat × Value)} {st : List Value} (h : ch_H X E RX13 cc nL) {k i : Nat} {x : Int32} (hv : S.2.1 k 23 i) (hd : decode cc pc = .ok (.putfield 151, 3)) (kk : ch_W X E nL S (ch_st μ k 23 i 3 x) kc ks (pc + 3) L st) : ch_W X E nL S μ kc ks pc L (.int x :: .ref (S.1 k 23 i) :: st) :=
  oa_puti (ci := 12) (j := 3) (ty := .int) (host := "CellHandoverLaw") h rfl rfl li_X12 tyX12 tyX12_ok nmX12 rfl hv (by decide) rfl (List.mem_of_getElem? (i := 18) rfl) rfl (by decide +kernel) rfl rfl rfl hd kk
theorem pr_X12_16 {X : ch_X} {E : ch_E} {cc : ByteArray} {nL : Nat} {S : ch_S} {μ : ch_M} {kc ks pc : Nat} {L : List (Nat × Value)} {st : List Value} (h : ch_H X E RX12 cc nL) {k i v : Nat} (hv : S.2.1 k 23 i) (hd : decode cc pc = .ok (.putfield 16, 3)) (kk : ch_W X E nL (s_rf S k 23 i 11 v) μ kc ks (pc + 3) L st) : ch_W X E nL S μ kc ks pc L (.ref v :: .ref (S.1 k 23 i) :: st) :=
  oa_putr (ci := 12) (j := 11) (ty := .array .int) h rfl rfl li_X12 tyX12 tyX12_ok nmX12 rfl hv (by decide) rfl kw_1067 rfl (by decide +kernel) rfl rfl hd kk
theorem pr_X12_22 {X : ch_X} {E : ch_E} {cc : ByteArray} {nL : Nat} {S : ch_S} {μ : ch_M} {kc ks pc : Nat} {L : List (Nat × Value)} {st : List Value} (h : ch_H X E RX12 cc nL) {k i v : Nat} (hv : S.2.1 k 23 i) (hd : decode cc pc = .ok (.putfield 22, 3)) (kk : ch_W X E nL (s_rf S k 23 i 12 v) μ kc ks (pc + 3) L st) : ch_W X E nL S μ kc ks pc L (.ref v :: .ref (S.1 k 23 i) :: st) :=
  oa_putr (ci := 12) (j := 12) (ty := .array (.array .int)) h rfl rfl li_X12 tyX12 tyX12_ok nmX12 rfl hv (by decide) rfl kw_1069 rfl (by decide +kernel) rfl rfl hd kk
theorem pr_X13_30 {X : ch_X} {E : ch_E} {cc : ByteArray} {nL : Nat} {S : ch_S} {μ : ch_M} {kc ks pc : Nat} {L : List (Nat × Value)} {st : List Value} (h : ch_H X E RX13 cc nL) {k i v : Nat} (hv : S.2.1 k 22 i) (hd : decode cc pc = .ok (.putfield 30, 3)) (kk : ch_W X E nL (s_rf S k 22 i 9 v) μ kc ks (pc + 3) L st) : ch_W X E nL S μ kc ks pc L (.ref v :: .ref (S.1 k 22 i) :: st) :=
  oa_putr (ci := 13) (j := 9) (ty := .array (.array .int)) h rfl rfl li_X13 tyX13 tyX13_ok nmX13 rfl hv (by decide) rfl kw_814 rfl (by decide +kernel) rfl rfl hd kk
theorem pr_X13_35 {X : ch_X} {E : ch_E} {cc : ByteArray} {nL : Nat} {S : ch_S} {μ : ch_M} {kc ks pc : Nat} {L : List (Nat × Value)} {st : List Value} (h : ch_H X E RX13 cc nL) {k i v : Nat} (hv : S.2.1 k 22 i) (hd : decode cc pc = .ok (.putfield 35, 3)) (kk : ch_W X E nL (s_rf S k 22 i 10 v) μ kc ks (pc + 3) L st) : ch_W X E nL S μ kc ks pc L (.ref v :: .ref (S.1 k 22 i) :: st) :=
  oa_putr (ci := 13) (j := 10) (ty := .array (.array .int)) h rfl rfl li_X13 tyX13 tyX13_ok nmX13 rfl hv (by decide) rfl kw_816 rfl (by decide +kernel) rfl rfl hd kk
theorem pr_X13_38 {X : ch_X} {E : ch_E} {cc : ByteArray} {nL : Nat} {S : ch_S} {μ : ch_M} {kc ks pc : Nat} {L : List (Nat × Value)} {st : List Value} (h : ch_H X E RX13 cc nL) {k i v : Nat} (hv : S.2.1 k 22 i) (hd : decode cc pc = .ok (.putfield 38, 3)) (kk : ch_W X E nL (s_rf S k 22 i 11 v) μ kc ks (pc + 3) L st) : ch_W X E nL S μ kc ks pc L (.ref v :: .ref (S.1 k 22 i) :: st) :=
  oa_putr (ci := 13) (j := 11) (ty := .array (.array .int)) h rfl rfl li_X13 tyX13 tyX13_ok nmX13 rfl hv (by decide) rfl kw_818 rfl (by decide +kernel) rfl rfl hd kk
theorem pr_X13_41 {X : ch_X} {E : ch_E} {cc : ByteArray} {nL : Nat} {S : ch_S} {μ : ch_M} {kc ks pc : Nat} {L : List (Nat × Value)} {st : List Value} (h : ch_H X E RX13 cc nL) {k i v : Nat} (hv : S.2.1 k 22 i) (hd : decode cc pc = .ok (.putfield 41, 3)) (kk : ch_W X E nL (s_rf S k 22 i 12 v) μ kc ks (pc + 3) L st) : ch_W X E nL S μ kc ks pc L (.ref v :: .ref (S.1 k 22 i) :: st) :=
  oa_putr (ci := 13) (j := 12) (ty := .array (.array .int)) h rfl rfl li_X13 tyX13 tyX13_ok nmX13 rfl hv (by decide) rfl kw_819 rfl (by decide +kernel) rfl rfl hd kk
theorem pr_X13_44 {X : ch_X} {E : ch_E} {cc : ByteArray} {nL : Nat} {S : ch_S} {μ : ch_M} {kc ks pc : Nat} {L : List (Nat × Value)} {st : List Value} (h : ch_H X E RX13 cc nL) {k i v : Nat} (hv : S.2.1 k 22 i) (hd : decode cc pc = .ok (.putfield 44, 3)) (kk : ch_W X E nL (s_rf S k 22 i 13 v) μ kc ks (pc + 3) L st) : ch_W X E nL S μ kc ks pc L (.ref v :: .ref (S.1 k 22 i) :: st) :=
  oa_putr (ci := 13) (j := 13) (ty := .array .int) h rfl rfl li_X13 tyX13 tyX13_ok nmX13 rfl hv (by decide) rfl kw_820 rfl (by decide +kernel) rfl rfl hd kk
theorem pr_X13_47 {X : ch_X} {E : ch_E} {cc : ByteArray} {nL : Nat} {S : ch_S} {μ : ch_M} {kc ks pc : Nat} {L : List (Nat × Value)} {st : List Value} (h : ch_H X E RX13 cc nL) {k i v : Nat} (hv : S.2.1 k 22 i) (hd : decode cc pc = .ok (.putfield 47, 3)) (kk : ch_W X E nL (s_rf S k 22 i 14 v) μ kc ks (pc + 3) L st) : ch_W X E nL S μ kc ks pc L (.ref v :: .ref (S.1 k 22 i) :: st) :=
  oa_putr (ci := 13) (j := 14) (ty := .array .int) h rfl rfl li_X13 tyX13 tyX13_ok nmX13 rfl hv (by decide) rfl kw_821 rfl (by decide +kernel) rfl rfl hd kk
theorem pr_X13_52 {X : ch_X} {E : ch_E} {cc : ByteArray} {nL : Nat} {S : ch_S} {μ : ch_M} {kc ks pc : Nat} {L : List (Nat × Value)} {st : List Value} (h : ch_H X E RX13 cc nL) {k i v : Nat} (hv : S.2.1 k 22 i) (hd : decode cc pc = .ok (.putfield 52, 3)) (kk : ch_W X E nL (s_rf S k 22 i 15 v) μ kc ks (pc + 3) L st) : ch_W X E nL S μ kc ks pc L (.ref v :: .ref (S.1 k 22 i) :: st) :=
  oa_putr (ci := 13) (j := 15) (ty := .array (.object "CellHandoverLaw$Mobile")) h rfl rfl li_X13 tyX13 tyX13_ok nmX13 rfl hv (by decide) rfl kw_822 rfl (by decide +kernel) rfl rfl hd kk
