/-! ARRAYS, Math, arraycopy, Strings, calls, returns -/
/-- a whole array set -/
def ch_sa (μ : ch_M) (k kd i : Nat) (f : Nat → Int32) : ch_M := up μ k (up (μ k) kd (up (μ k kd) i f))
theorem ch_sa_same (μ : ch_M) (k kd i : Nat) (f : Nat → Int32) : ch_sa μ k kd i f k kd i = f := by simp [ch_sa, up]
theorem ch_sa_ne {μ : ch_M} {k kd i : Nat} {f : Nat → Int32} {k' kd' i' : Nat} (h : ¬ (k' = k ∧ kd' = kd ∧ i' = i)) : ch_sa μ k kd i f k' kd' i' = μ k' kd' i' := by
  unfold ch_sa up
  by_cases h1 : k' = k <;> by_cases h2 : kd' = kd <;> by_cases h3 : i' = i <;> simp_all
theorem ch_ct_nea {E : ch_E} {S : ch_S} {μ : ch_M} {k kd i : Nat} {f : Nat → Int32} {k' kd' i' : Nat} (h : ¬ (k' = k ∧ kd' = kd ∧ i' = i)) : ch_ct E S (ch_sa μ k kd i f) k' kd' i' = ch_ct E S μ k' kd' i' := by
  have e := ch_sa_ne (μ := μ) (f := f) h
  have e2 : ∀ ci, ch_fs S (ch_sa μ k kd i f) ci k' kd' i' = ch_fs S μ ci k' kd' i' := by
    intro ci
    have e3 : ch_v S (ch_sa μ k kd i f) ci k' kd' i' = ch_v S μ ci k' kd' i' := by funext j'; unfold ch_v; rw [e]
    unfold ch_fs; rw [e3]
  unfold ch_ct
  simp only [e2, e]
theorem ch_I_puta {E : ch_E} {S : ch_S} {μ : ch_M} {H H1 : Heap} {k kd i t n : Nat} {f : Nat → Int32} (h : ch_I E S μ H) (hv : S.2.1 k kd i) (hk : ch_kd kd = .inr (t, 0, n)) (he : H1[S.1 k kd i]? = some (vp_cell (E.2.2.1 t) (n, .inl f))) (ho : ∀ q : Nat, q ≠ S.1 k kd i → H1[q]? = H[q]?) : ch_I E S (ch_sa μ k kd i f) H1 := by
  obtain ⟨h1, h2, h3, h4⟩ := h
  refine ⟨fun k' kd' i' hv' => ?_, h2, h3, fun k' kd' i' ci j' hv' hc hz' => ?_⟩
  · by_cases e : k' = k ∧ kd' = kd ∧ i' = i
    · obtain ⟨rfl, rfl, rfl⟩ := e
      rw [ch_ct_a hk, ch_sa_same]
      exact he
    · rw [ch_ct_nea e]
      exact (h1 k' kd' i' hv').kept (ho _ (fun q => e (h2 _ _ _ _ _ _ hv' hv q)))
  · by_cases e : k' = k ∧ kd' = kd ∧ i' = i
    · obtain ⟨rfl, rfl, rfl⟩ := e
      cases hk.symm.trans hc
    · rw [ch_sa_ne e]
      exact h4 k' kd' i' ci j' hv' hc hz'
theorem ch_st_sa (μ : ch_M) (k kd i j : Nat) (v : Int32) : ch_st μ k kd i j v = ch_sa μ k kd i (up (μ k kd i) j v) := rfl
section ARows
variable {X : ch_X} {E : ch_E} {own : String} {cc : ByteArray} {nL : Nat} {S : ch_S} {μ : ch_M} {kc ks pc : Nat} {L : List (Nat × Value)} {st : List Value}
theorem ch_arr {s : State} {H : Heap} {k kd i t n : Nat} (hI : ch_I E S μ H) (hv : S.2.1 k kd i) (hk : ch_kd kd = .inr (t, 0, n)) : H[S.1 k kd i]? = some (vp_cell (E.2.2.1 t) (n, .inl (μ k kd i))) := by
  have h := hI.1 k kd i hv
  rw [ch_ct_a hk] at h
  exact h
theorem ch_arrq {H : Heap} {k kd i t n : Nat} (hI : ch_I E S μ H) (hv : S.2.1 k kd i) (hk : ch_kd kd = .inr (t, 1, n)) : H[S.1 k kd i]? = some (vp_cell (E.2.2.1 t) (n, .inr (.inr (.inr (.inr (S.2.2 k kd i)))))) := by
  have h := hI.1 k kd i hv
  rw [ch_ct_q hk] at h
  exact h
theorem ch_arrl {H : Heap} {k kd i t n : Nat} (hI : ch_I E S μ H) (hv : S.2.1 k kd i) (hk : ch_kd kd = .inr (t, 2, n)) : H[S.1 k kd i]? = some (vp_cell (E.2.2.1 t) (n, .inr (.inl (fun j => (μ k kd i j).toInt64)))) := by
  have h := hI.1 k kd i hv
  rw [ch_ct_l hk] at h
  exact h
theorem ch_typ {s : State} (hT : ch_T E s) {t : Nat} (ht : t < 7) : ArrOfT s (E.2.2.1 t) (ch_ty t) ∧ va_RA s (E.2.2.1 t) (ch_ty t) := by
  refine hT.1.2 t (E.2.2.1 t, ch_ty t) ?_
  rcases (show t = 0 ∨ t = 1 ∨ t = 2 ∨ t = 3 ∨ t = 4 ∨ t = 5 ∨ t = 6 by omega) with rfl | rfl | rfl | rfl | rfl | rfl | rfl <;> rfl
theorem ca_iald (h : ch_H X E own cc nL) {k kd i n : Nat} {x : Int32} (hk : ch_kd kd = .inr (0, 0, n)) (hv : S.2.1 k kd i) (hin : vp_in x n) (hd : decode cc pc = .ok (.iaload, 1)) (kk : ch_W X E nL S μ kc ks (pc + 1) L (.int (μ k kd i x.toNatClampNeg) :: st)) : ch_W X E nL S μ kc ks pc L (.int x :: .ref (S.1 k kd i) :: st) := by
  intro H locs ls hI hS hl
  have hlt : x.toNatClampNeg < n := Nat.not_le.mp fun q => hin (Or.inr q)
  exact W.iald (v := .int (μ k kd i x.toNatClampNeg)) h.1 h.2.1 (ch_arr (s := x_s X) hI hv hk) ((ch_typ h.2.2.2.2.1 (t := 0) (by decide)).1 n (fun j => .int (μ k kd i j))) (fun q => by cases q) (by show ¬ (x < 0 ∨ (arrV _ _ _).slots.size ≤ _); rw [arrV_size]; exact hin) (by show (arrV _ _ _).slots[_]? = _; rw [arrV_read _ _ hlt]) rfl rfl hd (kk H locs ls hI hS hl)
theorem ca_iast (h : ch_H X E own cc nL) {k kd i n : Nat} {x y : Int32} (hk : ch_kd kd = .inr (0, 0, n)) (hv : S.2.1 k kd i) (hin : vp_in x n) (hd : decode cc pc = .ok (.iastore, 1)) (kk : ch_W X E nL S (ch_st μ k kd i x.toNatClampNeg y) kc ks (pc + 1) L st) : ch_W X E nL S μ kc ks pc L (.int y :: .int x :: .ref (S.1 k kd i) :: st) := by
  intro H locs ls hI hS hl
  refine W.iast h.1 h.2.1 (ch_arr (s := x_s X) hI hv hk) ((ch_typ h.2.2.2.2.1 (t := 0) (by decide)).1 n (fun j => .int (μ k kd i j))) (fun q => by cases q) (by show ¬ (x < 0 ∨ (arrV _ _ _).slots.size ≤ _); rw [arrV_size]; exact hin) rfl rfl hd fun H1 e z oq => ?_
  refine kk H1 _ ls ?_ (hS.put z oq (hI.2.2.1 _ _ _ hv)) hl
  rw [ch_st_sa]
  refine ch_I_puta hI hv hk ?_ oq
  rw [e, vp_cell_i, vp_cell_i, arrV_store]
  congr 2
  funext q
  by_cases hq : q = x.toNatClampNeg
  · subst hq
    simp [updV, up]
  · simp [updV, up, hq]
theorem ca_aald (h : ch_H X E own cc nL) {k kd i t n : Nat} {x : Int32} {C : String} {r : Option Nat} (hk : ch_kd kd = .inr (t, 1, n)) (ht : t < 7) (hty : ch_ty t = .object C) (hv : S.2.1 k kd i) (hin : vp_in x n) (hr : S.2.2 k kd i x.toNatClampNeg = r) (hd : decode cc pc = .ok (.aaload, 1)) (kk : ch_W X E nL S μ kc ks (pc + 1) L (va_rf r :: st)) : ch_W X E nL S μ kc ks pc L (.int x :: .ref (S.1 k kd i) :: st) := by
  intro H locs ls hI hS hl
  have hlt : x.toNatClampNeg < n := Nat.not_le.mp fun q => hin (Or.inr q)
  subst hr
  have hA := (ch_typ h.2.2.2.2.1 ht).1
  rw [hty] at hA
  exact W.aald (v := va_rf (S.2.2 k kd i x.toNatClampNeg)) (ty := .object C) h.1 h.2.1 (ch_arrq hI hv hk) (hA n (fun j => va_rf (S.2.2 k kd i j))) rfl (fun q => by cases q) (by show ¬ (x < 0 ∨ (arrV _ _ _).slots.size ≤ _); rw [arrV_size]; exact hin) (by show (arrV _ _ _).slots[_]? = _; rw [arrV_read _ _ hlt]) rfl rfl hd (kk H locs ls hI hS hl)
theorem ca_alen (h : ch_H X E own cc nL) {k kd i t n : Nat} {v : Int32} (hk : ch_kd kd = .inr (t, 0, n)) (ht : t < 7) (hv : S.2.1 k kd i) (hn : Int32.ofNat n = v) (hd : decode cc pc = .ok (.arraylength, 1)) (kk : ch_W X E nL S μ kc ks (pc + 1) L (.int v :: st)) : ch_W X E nL S μ kc ks pc L (.ref (S.1 k kd i) :: st) := by
  intro H locs ls hI hS hl
  exact W.alen h.1 h.2.1 (ch_arr (s := x_s X) hI hv hk) ((ch_typ h.2.2.2.2.1 ht).1 n (fun j => .int (μ k kd i j))) (by rw [vp_cell_i, arrV_size]; exact hn) rfl rfl hd (kk H locs ls hI hS hl)
theorem ca_alenq (h : ch_H X E own cc nL) {k kd i t n : Nat} {v : Int32} (hk : ch_kd kd = .inr (t, 1, n)) (ht : t < 7) (hv : S.2.1 k kd i) (hn : Int32.ofNat n = v) (hd : decode cc pc = .ok (.arraylength, 1)) (kk : ch_W X E nL S μ kc ks (pc + 1) L (.int v :: st)) : ch_W X E nL S μ kc ks pc L (.ref (S.1 k kd i) :: st) := by
  intro H locs ls hI hS hl
  exact W.alen h.1 h.2.1 (ch_arrq hI hv hk) ((ch_typ h.2.2.2.2.1 ht).1 n (fun j => va_rf (S.2.2 k kd i j))) (by rw [vp_cell_q, arrV_size]; exact hn) rfl rfl hd (kk H locs ls hI hS hl)
/-- Math -/
theorem ca_mmax (h : ch_H X E own cc nL) {D MC MS idx : Nat} (hG : ch_G X D MC MS) (hD : Nat.ble 1 D = true) (hkc : Nat.ble kc MC = true) (hks : Nat.ble ks MS = true) (hw : Cond.methodLink own idx Lib.Math.max.name ∈ ch_GL) (hw2 : Cond.static Lib.Math.max.name ∈ ch_GL) (hw3 : Cond.initialized "java/lang/Math" ∈ ch_GL) (hw4 : Cond.code Lib.Math.max.name Lib.Math.max.code 2 (some .int) ∈ ch_GL) {x y : Int32} (hst : (st.map fun v => v.category).sum ≤ 8) (hd : decode cc pc = .ok (.invokestatic idx, 3)) (kk : ch_W X E nL S μ kc ks (pc + 3) L (.int (if x < y then y else x) :: st)) : ch_W X E nL S μ kc ks pc L (.int y :: .int x :: st) := by
  intro H locs ls hI hS hl
  have hts := h.2.2.2.1
  have h1 := Nat.le_of_ble_eq_true hD
  exact va_mmax h.1 h.2.1 (h.2.2.2.2.2.2.trans hl.1.symm) h.2.2.1 (hts _ hw) (hts _ hw2) (hts _ hw3) (hts _ hw4) (Nat.le_trans h1 hG.1) (by have := hG.2.1; omega) (Nat.le_trans (Nat.le_of_ble_eq_true hkc) hG.2.2.1) (Nat.le_trans (Nat.le_of_ble_eq_true hks) hG.2.2.2) hd (kk H locs ls hI hS hl)
theorem ca_mmin (h : ch_H X E own cc nL) {D MC MS idx : Nat} (hG : ch_G X D MC MS) (hD : Nat.ble 1 D = true) (hkc : Nat.ble kc MC = true) (hks : Nat.ble ks MS = true) (hw : Cond.methodLink own idx Lib.Math.min.name ∈ ch_GL) (hw2 : Cond.static Lib.Math.min.name ∈ ch_GL) (hw3 : Cond.initialized "java/lang/Math" ∈ ch_GL) (hw4 : Cond.code Lib.Math.min.name Lib.Math.min.code 2 (some .int) ∈ ch_GL) {x y : Int32} (hst : (st.map fun v => v.category).sum ≤ 8) (hd : decode cc pc = .ok (.invokestatic idx, 3)) (kk : ch_W X E nL S μ kc ks (pc + 3) L (.int (if y < x then y else x) :: st)) : ch_W X E nL S μ kc ks pc L (.int y :: .int x :: st) := by
  intro H locs ls hI hS hl
  have hts := h.2.2.2.1
  have h1 := Nat.le_of_ble_eq_true hD
  exact va_mmin h.1 h.2.1 (h.2.2.2.2.2.2.trans hl.1.symm) h.2.2.1 (hts _ hw) (hts _ hw2) (hts _ hw3) (hts _ hw4) (Nat.le_trans h1 hG.1) (by have := hG.2.1; omega) (Nat.le_trans (Nat.le_of_ble_eq_true hkc) hG.2.2.1) (Nat.le_trans (Nat.le_of_ble_eq_true hks) hG.2.2.2) hd (kk H locs ls hI hS hl)
theorem ca_mabs (h : ch_H X E own cc nL) {D MC MS idx : Nat} (hG : ch_G X D MC MS) (hD : Nat.ble 1 D = true) (hkc : Nat.ble kc MC = true) (hks : Nat.ble ks MS = true) (hw : Cond.methodLink own idx Lib.Math.abs.name ∈ ch_GL) (hw2 : Cond.static Lib.Math.abs.name ∈ ch_GL) (hw3 : Cond.initialized "java/lang/Math" ∈ ch_GL) (hw4 : Cond.code Lib.Math.abs.name Lib.Math.abs.code 1 (some .int) ∈ ch_GL) {x : Int32} (hst : (st.map fun v => v.category).sum ≤ 8) (hd : decode cc pc = .ok (.invokestatic idx, 3)) (kk : ch_W X E nL S μ kc ks (pc + 3) L (.int (if 0 ≤ x then x else 0 - x) :: st)) : ch_W X E nL S μ kc ks pc L (.int x :: st) := by
  intro H locs ls hI hS hl
  have hts := h.2.2.2.1
  have h1 := Nat.le_of_ble_eq_true hD
  exact va_mabs h.1 h.2.1 (h.2.2.2.2.2.2.trans hl.1.symm) h.2.2.1 (hts _ hw) (hts _ hw2) (hts _ hw3) (hts _ hw4) (Nat.le_trans h1 hG.1) (by have := hG.2.1; omega) (Nat.le_trans (Nat.le_of_ble_eq_true hkc) hG.2.2.1) (Nat.le_trans (Nat.le_of_ble_eq_true hks) hG.2.2.2) hd (kk H locs ls hI hS hl)
/-- what a call site needs of the tables -/
def ch_LV (own : String) (idx : Nat) (y : MethodName) (bytes : ByteArray) (maxL : Nat) (ret : Option FieldType) (n : Nat) : Prop :=
  Cond.methodLink own idx y ∈ ch_GL ∧ Cond.instanceMethod y ∈ ch_GL ∧ Cond.selects y.cls y y ∈ ch_GL ∧ Cond.initialized y.cls ∈ ch_GL ∧ Cond.code y bytes maxL ret ∈ ch_GL ∧ (y.cls ≠ "java/lang/invoke/MethodHandle" ∧ y.cls ≠ "java/lang/invoke/VarHandle" ∧ (parseMethodDescriptor y.desc).map (fun d => d.parameters.length) = some n)
def ch_LS (own : String) (idx : Nat) (y : MethodName) (bytes : ByteArray) (maxL : Nat) (ret : Option FieldType) (n : Nat) : Prop :=
  Cond.methodLink own idx y ∈ ch_GL ∧ Cond.static y ∈ ch_GL ∧ Cond.initialized y.cls ∈ ch_GL ∧ Cond.code y bytes maxL ret ∈ ch_GL ∧ (y.cls ≠ "java/lang/invoke/MethodHandle" ∧ y.cls ≠ "java/lang/invoke/VarHandle" ∧ (parseMethodDescriptor y.desc).map (fun d => d.parameters.length) = some n)
theorem ch_good {ws : List Cond} (h : ∀ w ∈ ws, w ∈ ch_GL) : GoodIn ch_GL ws := fun w hw => ⟨h w hw, good_of_word (ch_GLg (h w hw))⟩
theorem ch_callB (h : ch_H X E own cc nL) {D MC MS idx d mc ms n maxL : Nat} {y : MethodName} {bytes : ByteArray} {ret : Option FieldType} (hG : ch_G X D MC MS) (hD : Nat.ble (d + 1) D = true) (hm : Nat.ble maxL 22 = true) (l1 : Cond.methodLink own idx y ∈ ch_GL) (l4 : Cond.initialized y.cls ∈ ch_GL) (l5 : Cond.code y bytes maxL ret ∈ ch_GL) (l6 : y.cls ≠ "java/lang/invoke/MethodHandle" ∧ y.cls ≠ "java/lang/invoke/VarHandle" ∧ (parseMethodDescriptor y.desc).map (fun d => d.parameters.length) = some n) :
    CallB (x_R X) (x_s X) (x_a X) own idx y bytes maxL ret (Cond.code y bytes maxL ret :: ch_GL) (ch_rm d mc ms) mc ms n := by
  have hts := h.2.2.2.1
  have h1 := Nat.le_of_ble_eq_true hD
  have h2 := Nat.le_of_ble_eq_true hm
  refine callB_of n hts (ch_good (fun w hw => (List.mem_cons.mp hw).elim (fun e => by rw [e]; exact l5) id)) rfl rfl rfl (hts _ l4) (hts _ l1) l6 ⟨Nat.le_trans h1 hG.1, ?_⟩
  have h3 := hG.2.1
  show 8 + (maxL + 11) + 41 * d ≤ _
  omega
theorem ch_ready (h : ch_H X E own cc nL) {H : Heap} {locs : List Loc} (hI : ch_I E S μ H) (hS : va_S (fun q => E.1 ≤ q) (x_s X).heap H locs) (U : State) (hU : U.heap = H) (hW : (x_s X).WarmedH U.vm) : ch_T E U ∧ ch_I E S μ U.heap :=
  ⟨h.2.2.2.2.1.go hW (by rw [hU]; exact hS.2.1), by rw [hU]; exact hI⟩
/-- behind a call -/
theorem ch_back {stk rest : List Value} {mc ms : Nat} {a : Array Value} {Post : Option Value → ch_S → ch_M → Prop} {H : Heap} {locs : List Loc} {ls : Array Slot} (hS : va_S (fun q => E.1 ≤ q) (x_s X).heap H locs) (hl : lv_has ls nL L)
    (hr : va_Run (x_p X) (x_l X) (x_e X) (x_R X) (x_s X) (x_m X) (x_a X) (x_b X) (x_h X) (x_c X) H locs kc ks mc ms (F0 (x_m X) pc ls stk) rest (ch_Q E Post a) (fun q => E.1 ≤ q))
    (kk : ∀ (v : Option Value) (S' : ch_S) (μ' : ch_M), Post v S' μ' → ch_W X E nL S' μ' (kc + mc) (ks + ms) (pc + 3) L (v.toList ++ rest)) :
    W (x_p X) (x_l X) (x_e X) (x_R X) (x_s X) (x_m X) (x_a X) (x_b X) (x_h X) (x_c X) H locs kc ks (x_Q X) (F0 (x_m X) pc ls stk) := by
  intro T hT Y
  obtain ⟨v, st₀, t, T', L', h0, Y', hL, e1, e2, ⟨⟨v', S', μ', hv, hp, hI'⟩, hF⟩, go⟩ := hr T hT Y
  cases hv
  have hS' : va_S (fun q => E.1 ≤ q) (x_s X).heap T'.heap (locs ++ L') := by
    refine ⟨?_, fun q h1 h2 => ?_, fun q hq => ?_⟩
    · rw [e1]; exact Nat.le_trans hS.1 (by rw [← h0]; exact hF.1)
    · rw [e1, hF.2 q (by rw [h0]; exact Nat.lt_of_lt_of_le h1 hS.1) h2, h0]
      exact hS.2.1 q h1 h2
    · rcases List.mem_append.mp hq with z | z
      · exact hS.2.2 q z
      · exact hL q z
  obtain ⟨t2, a1, b1⟩ := kk v S' μ' hp T'.heap (locs ++ L') ls (by rw [e1]; exact hI') hS' hl T' rfl Y'
  exact ⟨t2, go t2 a1, b1⟩
theorem ca_callV (h : ch_H X E own cc nL) {D MC MS idx d mc ms n maxL : Nat} {y : MethodName} {bytes : ByteArray} {ret : Option FieldType} {k kd i ci : Nat} {q : vw_C} {stk As : List Value} {Post : Option Value → ch_S → ch_M → Prop} (hG : ch_G X D MC MS) (hL : ch_LV own idx y bytes maxL ret n) (hM : ch_C E (x_l X) y bytes maxL ret d mc ms S μ (.ref (S.1 k kd i) :: As) Post) (hc : ch_cl[ci]? = some q) (hq : q.1 = y.cls) (hk : ch_kd kd = .inl ci) (hv : S.2.1 k kd i) (hstk : stk = As.reverse ++ .ref (S.1 k kd i) :: st)
    (hn : As.length = n) (hD : Nat.ble (d + 1) D = true) (hm : Nat.ble maxL 22 = true) (hkc : kc + mc ≤ MC ∧ ks + ms ≤ MS) (hst : (st.map fun v => v.category).sum ≤ 8) (hd : decode cc pc = .ok (.invokevirtual idx, 3))
    (kk : ∀ (v : Option Value) (S' : ch_S) (μ' : ch_M), Post v S' μ' → ch_W X E nL S' μ' (kc + mc) (ks + ms) (pc + 3) L (v.toList ++ st)) : ch_W X E nL S μ kc ks pc L stk := by
  intro H locs ls hI hS hl
  obtain ⟨l1, l2, l3, l4, l5, l6⟩ := hL
  have hts := h.2.2.2.1
  subst hstk
  refine ch_back (a := (Value.ref (S.1 k kd i) :: As).toArray) hS hl (va_runV (Ts := ch_GL) (own := own) (C := y.cls) (b := S.1 k kd i) (As := As) (rest := st) ⟨h.1, h.2.1, h.2.2.2.2.2.2, h.2.2.1, hts⟩ hM ⟨ch_callB h hG hD hm l1 l4 l5 l6, hts _ l2, hts _ l3⟩ ⟨ch_blind, ?_, fun U hU hW => ⟨rfl, ch_ready h hI hS U hU hW⟩⟩ rfl hn hl.1 rfl (lv_room (m := x_m X) (pc := pc) (ls := ls) hst) hd ⟨Nat.le_trans hkc.1 hG.2.2.1, Nat.le_trans hkc.2 hG.2.2.2⟩) kk
  obtain ⟨cell, g1, g2, g3, -⟩ := ch_field hI hv hk hc
  exact ⟨cell, g1, by rw [g3]; rfl, by rw [g2, ← hq]; exact (h.2.2.2.2.1.1.1 ci q hc).2.1⟩
theorem ca_callS (h : ch_H X E own cc nL) {D MC MS idx d mc ms n maxL : Nat} {y : MethodName} {bytes : ByteArray} {ret : Option FieldType} {stk As : List Value} {Post : Option Value → ch_S → ch_M → Prop} (hG : ch_G X D MC MS) (hL : ch_LS own idx y bytes maxL ret n) (hM : ch_C E (x_l X) y bytes maxL ret d mc ms S μ As Post) (hstk : stk = As.reverse ++ st)
    (hn : As.length = n) (hD : Nat.ble (d + 1) D = true) (hm : Nat.ble maxL 22 = true) (hkc : kc + mc ≤ MC ∧ ks + ms ≤ MS) (hst : (st.map fun v => v.category).sum ≤ 8) (hd : decode cc pc = .ok (.invokestatic idx, 3))
    (kk : ∀ (v : Option Value) (S' : ch_S) (μ' : ch_M), Post v S' μ' → ch_W X E nL S' μ' (kc + mc) (ks + ms) (pc + 3) L (v.toList ++ st)) : ch_W X E nL S μ kc ks pc L stk := by
  intro H locs ls hI hS hl
  obtain ⟨l1, l2, l4, l5, l6⟩ := hL
  have hts := h.2.2.2.1
  subst hstk
  exact ch_back (a := As.toArray) hS hl (va_runS (Ts := ch_GL) (own := own) (As := As) (rest := st) ⟨h.1, h.2.1, h.2.2.2.2.2.2, h.2.2.1, hts⟩ hM ⟨ch_callB h hG hD hm l1 l4 l5 l6, hts _ l2⟩ ⟨ch_blind, fun U hU hW => ⟨rfl, ch_ready h hI hS U hU hW⟩⟩ rfl hn hl.1 rfl (lv_room (m := x_m X) (pc := pc) (ls := ls) hst) hd ⟨Nat.le_trans hkc.1 hG.2.2.1, Nat.le_trans hkc.2 hG.2.2.2⟩) kk
/-- returns -/
theorem ca_ireturn (h : ch_H X E own cc nL) {mc ms : Nat} {ty : FieldType} {Post : Option Value → ch_S → ch_M → Prop} {x : Int32} (hR : ch_R X E (some ty) mc ms Post) (hn : narrow ty (.int x) = .int x) (hd : decode cc pc = .ok (.ireturn, 1)) (hp : Post (some (.int x)) S μ) : ch_W X E nL S μ mc ms pc L [.int x] := by
  intro H locs ls hI hS hl
  exact hR.1 H locs _ (W.zret h.1 h.2.1 hR.2 hn (fun t ht hW => ⟨⟨_, S, μ, rfl, hp, by rw [ht]; exact hI⟩, hS.F ht⟩) hS.2.2 hd h.2.2.2.2.2.1)
theorem ca_vreturn (h : ch_H X E own cc nL) {mc ms : Nat} {Post : Option Value → ch_S → ch_M → Prop} (hR : ch_R X E none mc ms Post) (hd : decode cc pc = .ok (.return_, 1)) (hp : Post none S μ) : ch_W X E nL S μ mc ms pc L [] := by
  intro H locs ls hI hS hl
  exact hR.1 H locs _ (W.vret h.1 h.2.1 hR.2 (fun t ht hW => ⟨⟨_, S, μ, rfl, hp, by rw [ht]; exact hI⟩, hS.F ht⟩) hS.2.2 hd h.2.2.2.2.2.1)
theorem ca_areturn (h : ch_H X E own cc nL) {mc ms a : Nat} {C : String} {Post : Option Value → ch_S → ch_M → Prop} (hR : ch_R X E (some (.object C)) mc ms Post) (hd : decode cc pc = .ok (.areturn, 1)) (hp : Post (some (.ref a)) S μ) : ch_W X E nL S μ mc ms pc L [.ref a] := by
  intro H locs ls hI hS hl
  exact hR.1 H locs _ (W.aret h.1 h.2.1 hR.2 (Or.inl ⟨_, rfl⟩) (Or.inr ⟨_, rfl⟩) (fun t ht hW => ⟨⟨_, S, μ, rfl, hp, by rw [ht]; exact hI⟩, hS.F ht⟩) hS.2.2 hd h.2.2.2.2.2.1)
end ARows
