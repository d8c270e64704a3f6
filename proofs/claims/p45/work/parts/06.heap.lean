/-! ROWS OVER THE HEAP, calls, returns, a method's entry -/
def ch_rm (d mc ms : Nat) : Room := { frames := d, cells := mc, slots := ms, locals := 41 * d }
/-- a method's end -/
def ch_Q (E : ch_E) (Post : Option Value → ch_S → ch_M → Prop) : Array Value → State → Outcome → State → Prop := fun _ st o t =>
  (∃ (v : Option Value) (S : ch_S) (μ : ch_M), o = .returned v ∧ Post v S μ ∧ ch_I E S μ t.heap) ∧ va_F (fun q => E.1 ≤ q) st t
def ch_P (E : ch_E) (S : ch_S) (μ : ch_M) (args : List Value) : Array Value → State → Prop := va_Pc args (fun U => ch_T E U ∧ ch_I E S μ U.heap)
/-- THE CONTRACT: from the memory μ under the names S, with these arguments, the method returns as Post says -/
def ch_C (E : ch_E) (l : Launch) (y : MethodName) (cc : ByteArray) (maxL : Nat) (ret : Option FieldType) (d mc ms : Nat) (S : ch_S) (μ : ch_M) (args : List Value) (Post : Option Value → ch_S → ch_M → Prop) : Prop :=
  Met l y (Cond.code y cc maxL ret :: ch_GL) (ch_rm d mc ms) (ch_P E S μ args) (ch_Q E Post) mc ms (fun q => E.1 ≤ q)
/-- room and words of the running method -/
def ch_G (X : ch_X) (D MC MS : Nat) : Prop := D ≤ (x_R X).frames ∧ 41 * D ≤ (x_R X).locals ∧ MC ≤ (x_R X).cells ∧ MS ≤ (x_R X).slots
/-- a return here is the method's end -/
def ch_R (X : ch_X) (E : ch_E) (ret : Option FieldType) (mc ms : Nat) (Post : Option Value → ch_S → ch_M → Prop) : Prop :=
  (∀ (H : Heap) (locs : List Loc) (g : JFrame), W (x_p X) (x_l X) (x_e X) (x_R X) (x_s X) (x_m X) (x_a X) (x_b X) (x_h X) (x_c X) H locs mc ms (MQ (x_b X) (ch_Q E Post) (x_a X) (x_s X) mc ms (fun q => E.1 ≤ q)) g → W (x_p X) (x_l X) (x_e X) (x_R X) (x_s X) (x_m X) (x_a X) (x_b X) (x_h X) (x_c X) H locs mc ms (x_Q X) g) ∧ (x_h X).sig.returnType = ret
theorem ch_blind {E : ch_E} {S : ch_S} {μ : ch_M} {args : List Value} : FrameBlind (ch_P E S μ args) :=
  fun _ U _ _ h => ⟨h.1, h.2.1.same (u := U) rfl rfl, h.2.2⟩
theorem ch_enter {E : ch_E} {l : Launch} {y : MethodName} {cc : ByteArray} {nL : Nat} {ret : Option FieldType} {d mc ms : Nat} {S : ch_S} {μ : ch_M} {args : List Value} {Post : Option Value → ch_S → ch_M → Prop}
    (hy : plainName y.cls = true) (hn : Nat.ble (lg_sl args).length nL = true)
    (body : ∀ X : ch_X, x_l X = l → ch_H X E y.cls cc nL → ch_G X d mc ms → ch_R X E ret mc ms Post → (x_h X).name = y.name → ch_W X E nL S μ 0 0 0 (lv_args 0 args) []) :
    ch_C E l y cc nL ret d mc ms S μ args Post := by
  refine Met.ofW (cc := cc) (maxL := nL) (ret := ret) hy rfl ?_
  intro p e s m a below meth c s₁ B hml hv
  obtain ⟨rfl, hT, hI⟩ := hv
  have hts := atoms_spec (ws := Cond.code y cc nL ret :: ch_GL) B.pre
  have hl := lv_entry args (n := nL) (Nat.le_of_ble_eq_true hn)
  rw [lg_entry_eq]
  exact body (p, l, e, ch_rm d mc ms, s, m, args.toArray, below, meth, c, MQ below (ch_Q E Post) args.toArray s mc ms (fun q => E.1 ≤ q)) rfl
    ⟨B.exec, B.bytes, findClass_of_methodNamed B.named, fun w hw => hts w (List.mem_cons_of_mem _ hw), hT, B.notSynchronized, hml⟩
    ⟨Nat.le_refl _, Nat.le_refl _, Nat.le_refl _, Nat.le_refl _⟩ ⟨fun _ _ _ k => k, B.returns⟩ (name_of_methodNamed B.named B.method).1 s.heap [] _ hI va_S.rf hl
section HRows
variable {X : ch_X} {E : ch_E} {own : String} {cc : ByteArray} {nL : Nat} {S : ch_S} {μ : ch_M} {kc ks pc : Nat} {L : List (Nat × Value)} {st : List Value}
theorem ca_widen {k n : Nat} (h1 : kc ≤ k) (h2 : ks ≤ n) (kk : ch_W X E nL S μ k n pc L st) : ch_W X E nL S μ kc ks pc L st :=
  fun H locs ls hI hS hl => W.widen h1 h2 (kk H locs ls hI hS hl)
/-- facts of the memory that may be asked for -/
theorem ca_bool {k kd i ci j : Nat} (hv : S.2.1 k kd i) (hc : ch_kd kd = .inl ci) (hz : ch_zs ci j = true) (kk : (μ k kd i j = 0 ∨ μ k kd i j = 1) → ch_W X E nL S μ kc ks pc L st) : ch_W X E nL S μ kc ks pc L st :=
  fun H locs ls hI hS hl => kk (hI.2.2.2 k kd i ci j hv hc hz) H locs ls hI hS hl
theorem ch_field {ci : Nat} {q : vw_C} {H : Heap} {k kd i : Nat} (hI : ch_I E S μ H) (hv : S.2.1 k kd i) (hk : ch_kd kd = .inl ci) (hq : ch_cl[ci]? = some q) : t_OB (S.1 k kd i) (E.2.1.1 ci) q.2.2 (E.2.1.2 ci) H (vp_V (ch_fs S μ ci k kd i)) := by
  have h := hI.1 k kd i hv
  rw [ch_ct_o hk] at h
  obtain ⟨r, h1, h2⟩ := h
  cases h1.symm.trans hq
  exact h2
theorem ca_getv (h : ch_H X E own cc nL) {ci index k kd i j : Nat} {C : String} {T : u_T} {N : Nat} (hc : ch_cl[ci]? = some (C, T, N)) (hN : N = ch_size ci) (hin : ∀ w ∈ u_ws C T N, w ∈ ch_GL) (hk : ch_kd kd = .inl ci) (hv : S.2.1 k kd i) (hj : j < N) (hw : Cond.fieldLink own index (T j).1 (T j).2.1 (T j).2.2.1 ∈ ch_GL)
    (hd : decode cc pc = .ok (.getfield index, 3)) (kk : ch_W X E nL S μ kc ks (pc + 3) L (ch_v S μ ci k kd i j :: st)) : ch_W X E nL S μ kc ks pc L (.ref (S.1 k kd i) :: st) := by
  intro H locs ls hI hS hl
  obtain ⟨cell, q1, q2, q3, q4⟩ := ch_field hI hv hk hc
  obtain ⟨hSl, hfc, kC, hkC, hkind⟩ := h.2.2.2.2.1.1.1 ci _ hc
  obtain ⟨cf, kf, fi, f, hi, hsl⟩ := hSl j hj
  have hts : ∀ w ∈ ch_GL, w.before (x_a X) (x_s X) = true := h.2.2.2.1
  refine W.getf h.1 h.2.1 h.2.2.1 (hts _ hw) hi (u_facts hfc hkC (u_lays hts hin hj) hi).1 q1 (by rw [q3]; exact fun z => by cases z) (v := ch_v S μ ci k kd i j) ?_ rfl rfl hd (kk H locs ls hI hS hl)
  rw [hsl, q4 j hj]
  subst hN
  simp [vp_V, List.getD_eq_getElem?_getD, ch_fs_get hj]
theorem ca_geti (h : ch_H X E own cc nL) {ci index k kd i j : Nat} {C : String} {T : u_T} {N : Nat} (hc : ch_cl[ci]? = some (C, T, N)) (hN : N = ch_size ci) (hin : ∀ w ∈ u_ws C T N, w ∈ ch_GL) (hk : ch_kd kd = .inl ci) (hv : S.2.1 k kd i) (hj : j < N) (hr : ch_rs ci j = false) (hw : Cond.fieldLink own index (T j).1 (T j).2.1 (T j).2.2.1 ∈ ch_GL)
    (hd : decode cc pc = .ok (.getfield index, 3)) (kk : ch_W X E nL S μ kc ks (pc + 3) L (.int (μ k kd i j) :: st)) : ch_W X E nL S μ kc ks pc L (.ref (S.1 k kd i) :: st) := by
  refine ca_getv h hc hN hin hk hv hj hw hd ?_
  unfold ch_v
  rw [if_neg (by rw [hr]; decide)]
  exact kk
theorem ca_getr (h : ch_H X E own cc nL) {ci index k kd i j : Nat} {C : String} {T : u_T} {N : Nat} {r : Option Nat} (hc : ch_cl[ci]? = some (C, T, N)) (hN : N = ch_size ci) (hin : ∀ w ∈ u_ws C T N, w ∈ ch_GL) (hk : ch_kd kd = .inl ci) (hv : S.2.1 k kd i) (hj : j < N) (hr : ch_rs ci j = true) (hw : Cond.fieldLink own index (T j).1 (T j).2.1 (T j).2.2.1 ∈ ch_GL)
    (hx : S.2.2 k kd i j = r) (hd : decode cc pc = .ok (.getfield index, 3)) (kk : ch_W X E nL S μ kc ks (pc + 3) L (va_rf r :: st)) : ch_W X E nL S μ kc ks pc L (.ref (S.1 k kd i) :: st) := by
  refine ca_getv h hc hN hin hk hv hj hw hd ?_
  unfold ch_v
  rw [if_pos hr, hx]
  exact kk
theorem ch_apart {s : State} {args : Array Value} (hT : ch_T E s) (hts : ∀ w ∈ ch_GL, w.before args s = true) {ci : Nat} {C : String} {T : u_T} {N : Nat} (hc : ch_cl[ci]? = some (C, T, N)) (hin : ∀ w ∈ u_ws C T N, w ∈ ch_GL) (ty : Nat → FieldType) (hty : ∀ k, k < N → parseFieldDescriptor (T k).2.2.1 = some (ty k)) (hnm : ∀ a, a < N → ∀ b, b < N → a ≠ b → (T a).2.1 ≠ (T b).2.1) : ∀ x y, x < N → y < N → x ≠ y → (E.2.1.2 ci) x ≠ (E.2.1.2 ci) y :=
  va_apart (own := "") hts hin ty hty hnm hT.1 hc
theorem ca_puti (h : ch_H X E own cc nL) {ci index k kd i j : Nat} {C : String} {T : u_T} {N : Nat} {x : Int32} {ty : FieldType} (hc : ch_cl[ci]? = some (C, T, N)) (hN : N = ch_size ci) (hin : ∀ w ∈ u_ws C T N, w ∈ ch_GL) (ty0 : Nat → FieldType) (hty : ∀ k, k < N → parseFieldDescriptor (T k).2.2.1 = some (ty0 k)) (hnm : ∀ a, a < N → ∀ b, b < N → a ≠ b → (T a).2.1 ≠ (T b).2.1) (hk : ch_kd kd = .inl ci) (hv : S.2.1 k kd i) (hj : j < N) (hr : ch_rs ci j = false) (hw : Cond.fieldLink own index (T j).1 (T j).2.1 (T j).2.2.1 ∈ ch_GL)
    (hfin : (T j).2.2.2 = false) (hdc : parseFieldDescriptor (T j).2.2.1 = some ty) (hn : narrow ty (.int x) = .int x) (hfit : fits ty (.int x) = true) (hz : ch_zs ci j = true → x = 0 ∨ x = 1)
    (hd : decode cc pc = .ok (.putfield index, 3)) (kk : ch_W X E nL S (ch_st μ k kd i j x) kc ks (pc + 3) L st) : ch_W X E nL S μ kc ks pc L (.int x :: .ref (S.1 k kd i) :: st) := by
  intro H locs ls hI hS hl
  obtain ⟨cell, q1, q2, q3, q4⟩ := ch_field hI hv hk hc
  have hts : ∀ w ∈ ch_GL, w.before (x_a X) (x_s X) = true := h.2.2.2.1
  have hap := ch_apart h.2.2.2.2.1 hts hc hin ty0 hty hnm
  obtain ⟨hSl, hfc, kC, hkC, hkind⟩ := h.2.2.2.2.1.1.1 ci _ hc
  obtain ⟨cf, kf, fi, f, hi, hsl⟩ := hSl j hj
  have hlay := hts _ (hin _ (u_in_lay hj))
  unfold u_lay at hlay
  rw [if_neg (by rw [hfin]; decide)] at hlay
  have hst := (u_facts hfc hkC (u_lays hts hin hj) hi).1
  have h6 := u_store hfc hkC hkind hlay hi hdc hn hfit
  refine W.putK h.1 h.2.1 (f := f) ⟨h.2.2.1, hts _ hw, ⟨_, _, _, hi⟩, hst⟩ (by rw [q2]; exact h6) q1 q3 (by rw [hsl]; exact k2_hasslot (q4 j hj)) rfl rfl hd fun H' e1 e2 e3 => ?_
  rw [hsl] at e1 ⊢
  refine kk H' _ ls (ch_I_put hI hv ?_ e3 (fun ci' hc' hz' => ?_)) (hS.put e2 e3 (hI.2.2.1 _ _ _ hv)) hl
  · rw [ch_ct_o hk]
    refine ⟨_, hc, ?_⟩
    show t_OB (S.1 k kd i) (E.2.1.1 ci) N (E.2.1.2 ci) H' (vp_V (ch_fs S (ch_st μ k kd i j x) ci k kd i))
    rw [← ch_fs_set (by rw [← hN]; exact hj) hr]
    exact t_OB.to (V := updV (vp_V (ch_fs S μ ci k kd i)) j (.int x)) ⟨_, e1, q2, q3, t_set q4 hap hj (.int x)⟩ (fun j' _ => vp_updV_set (by simp [ch_fs]; rw [← hN]; exact hj) _ j')
  · cases hk.symm.trans hc'
    exact hz hz'
end HRows
