/-! arraycopy, static calls of a nest mate, memories that agree where it matters -/
/-- a whole array of a network -/
def na (n : ch_N) (kd i : Nat) (f : Nat → Int32) : ch_N := up n kd (up (n kd) i f)
theorem ch_sa_na (μ : ch_M) (k kd i : Nat) (f : Nat → Int32) : ch_sa μ k kd i f = up μ k (na (μ k) kd i f) := rfl
theorem ch_st_nw (μ : ch_M) (k kd i j : Nat) (v : Int32) : ch_st μ k kd i j v = up μ k (nw (μ k) kd i j v) := rfl
def ch_len' (kd : Nat) : Nat := match ch_kd kd with
  | .inl ci => ch_size ci
  | .inr (_, _, n) => n
theorem arrV_congr {c : ClassId} {n : Nat} {f g : Nat → Value} (h : ∀ j, j < n → f j = g j) : arrV c n f = arrV c n g := by
  unfold arrV
  congr 1
  apply Array.ext_getElem?
  intro i
  by_cases hi : i < n
  · simp [Array.getElem?_ofFn, hi, h i hi]
  · simp [Array.getElem?_ofFn, hi]
theorem ch_len_o {kd ci : Nat} (h : ch_kd kd = .inl ci) : ch_len' kd = ch_size ci := by unfold ch_len'; rw [h]
theorem ch_len_a {kd t f n : Nat} (h : ch_kd kd = .inr (t, f, n)) : ch_len' kd = n := by unfold ch_len'; rw [h]
theorem ch_ct_x {E : ch_E} {S : ch_S} {μ : ch_M} {k kd i t f n : Nat} (h : ch_kd kd = .inr (t, f + 2, n)) : ch_ct E S μ k kd i = .inl (E.2.2.1 t, n, .inr (.inl (fun j => (μ k kd i j).toInt64))) := by
  unfold ch_ct; rw [h]; rfl
theorem ch_zs_len {ci j : Nat} (hz : ch_zs ci j = true) : j < ch_size ci := by
  by_cases e6 : ci = 6
  · subst e6
    have : j = 1 := by simpa [ch_zs] using hz
    subst this; decide
  by_cases e7 : ci = 7
  · subst e7
    have : j = 0 := by simpa [ch_zs] using hz
    subst this; decide
  by_cases e11 : ci = 11
  · subst e11
    have : j = 7 := by simpa [ch_zs] using hz
    subst this; decide
  · unfold ch_zs at hz
    split at hz <;> first | contradiction | cases hz
/-- only the slots that are there matter -/
theorem ch_I_agree {E : ch_E} {S : ch_S} {μ μ' : ch_M} {H : Heap} (h : ch_I E S μ H) (he : ∀ k kd i j, S.2.1 k kd i → j < ch_len' kd → μ k kd i j = μ' k kd i j) : ch_I E S μ' H := by
  obtain ⟨h1, h2, h3, h4⟩ := h
  refine ⟨fun k kd i hv => ?_, h2, h3, fun k kd i ci j hv hc hz => ?_⟩
  · have h5 := h1 k kd i hv
    have he' := he k kd i
    cases hk : ch_kd kd with
    | inl ci =>
      rw [ch_len_o hk] at he'
      rw [ch_ct_o hk] at h5 ⊢
      have e : ch_fs S μ' ci k kd i = ch_fs S μ ci k kd i := by
        unfold ch_fs
        apply List.map_congr_left
        intro j hj
        unfold ch_v
        rw [he' j hv (List.mem_range.mp hj)]
      rw [e]
      exact h5
    | inr q =>
      obtain ⟨t, f, n⟩ := q
      rw [ch_len_a hk] at he'
      cases f with
      | zero =>
        rw [ch_ct_a hk] at h5 ⊢
        show H[S.1 k kd i]? = some (arrV (E.2.2.1 t) n (fun j => .int (μ' k kd i j)))
        rw [← arrV_congr (f := fun j => .int (μ k kd i j)) (fun j hj => by rw [he' j hv hj])]
        exact h5
      | succ f =>
        cases f with
        | zero =>
          rw [ch_ct_q hk] at h5 ⊢
          exact h5
        | succ f =>
          rw [ch_ct_x hk] at h5 ⊢
          show H[S.1 k kd i]? = some (arrV (E.2.2.1 t) n (fun j => .long (μ' k kd i j).toInt64))
          rw [← arrV_congr (f := fun j => .long (μ k kd i j).toInt64) (fun j hj => by rw [he' j hv hj])]
          exact h5
  · rw [← he k kd i j hv (by rw [ch_len_o hc]; exact ch_zs_len hz)]
    exact h4 k kd i ci j hv hc hz
section Cp
variable {X : ch_X} {E : ch_E} {own : String} {cc : ByteArray} {nL : Nat} {S : ch_S} {μ μ' : ch_M} {kc ks pc : Nat} {L : List (Nat × Value)} {st : List Value}
theorem ca_agree (he : ∀ k kd i j, S.2.1 k kd i → j < ch_len' kd → μ k kd i j = μ' k kd i j) (kk : ch_W X E nL S μ' kc ks pc L st) : ch_W X E nL S μ kc ks pc L st :=
  fun H locs ls hI hS hl => kk H locs ls (ch_I_agree hI he) hS hl
theorem ca_copy (h : ch_H X E own cc nL) {D MC MS idx : Nat} (hG : ch_G X D MC MS) (hD : Nat.ble 1 D = true) (hw : Cond.methodLink own idx arraycopyName ∈ ch_GL) (hw1 : Cond.native arraycopyName ∈ ch_GL) (hw2 : Cond.static arraycopyName ∈ ch_GL) (hw3 : Cond.initialized "java/lang/System" ∈ ch_GL)
    {k0 kd0 i0 k kd i n0 n1 : Nat} (hk0 : ch_kd kd0 = .inr (0, 0, n0)) (hk : ch_kd kd = .inr (0, 0, n1)) (hv0 : S.2.1 k0 kd0 i0) (hv : S.2.1 k kd i) {sp dp n : Int32} (h1 : ¬ sp < 0) (h2 : ¬ dp < 0) (h3 : ¬ n < 0) (h4 : sp.toNatClampNeg + n.toNatClampNeg ≤ n0) (h5 : dp.toNatClampNeg + n.toNatClampNeg ≤ n1)
    (hst : Nat.ble (st.map fun v => v.category).sum 8 = true) (hd : decode cc pc = .ok (.invokestatic idx, 3))
    (kk : ch_W X E nL S (ch_sa μ k kd i (va_cpy (μ k0 kd0 i0) (μ k kd i) sp.toNatClampNeg dp.toNatClampNeg n.toNatClampNeg)) kc ks (pc + 3) L st) : ch_W X E nL S μ kc ks pc L (.int n :: .int dp :: .ref (S.1 k kd i) :: .int sp :: .ref (S.1 k0 kd0 i0) :: st) := by
  have nn : ∀ z : Int32, ¬ z < 0 → z.toInt = (z.toNatClampNeg : Int) := by
    intro z hz
    have hz0 : (0 : Int) ≤ z.toInt := by
      have := Int32.not_lt.mp hz
      simpa using Int32.le_iff_toInt_le.mp this
    show z.toInt = ((z.toInt.toNat : Nat) : Int)
    omega
  intro H locs ls hI hS hl
  have hts := h.2.2.2.1
  have hDD := Nat.le_of_ble_eq_true hD
  intro T hT Y
  have hc0 : H[S.1 k0 kd0 i0]? = some (vp_cell (E.2.2.1 0) (n0, .inl (μ k0 kd0 i0))) := ch_arr (s := x_s X) hI hv0 hk0
  have hc1 : H[S.1 k kd i]? = some (vp_cell (E.2.2.1 0) (n1, .inl (μ k kd i))) := ch_arr (s := x_s X) hI hv hk
  have hA := (ch_typ h.2.2.2.2.1 (t := 0) (by decide)).1
  obtain ⟨-, q0, hq0, cm0, hkk0⟩ := hA n0 (fun j => .int (μ k0 kd0 i0 j))
  obtain ⟨-, q1, hq1, cm1, hkk1⟩ := hA n1 (fun j => .int (μ k kd i j))
  obtain ⟨vm', X', step⟩ := Y.arraycopy h.1 h.2.2.1 (hts _ hw) (hts _ hw1) (hts _ hw2) (hts _ hw3) (src := S.1 k0 kd0 i0) (dst := S.1 k kd i) (cs := vp_cell (E.2.2.1 0) (n0, .inl (μ k0 kd0 i0))) (cd := vp_cell (E.2.2.1 0) (n1, .inl (μ k kd i))) (srcPos := sp) (destPos := dp) (n := n) (by rw [hT]; exact hc0) (by rw [hT]; exact hc1)
    (fun _ h => by cases h) (fun _ h => by cases h) (fun h => by cases h) (fun h => by cases h) hq0 hq1 hkk0 hkk1 (by rfl) h1 h2 h3
    (by rw [nn sp h1, nn n h3]; show ¬ _ > ((arrV (E.2.2.1 0) n0 (fun j => .int (μ k0 kd0 i0 j))).slots.size : Int); rw [arrV_size]; omega)
    (by rw [nn dp h2, nn n h3]; show ¬ _ > ((arrV (E.2.2.1 0) n1 (fun j => .int (μ k kd i j))).slots.size : Int); rw [arrV_size]; omega)
    (fun vm₁ _ j hj => by
      have e : (vp_cell (E.2.2.1 0) (n0, .inl (μ k0 kd0 i0))).slots.getD (sp.toNatClampNeg + j) .null = .int (μ k0 kd0 i0 (sp.toNatClampNeg + j)) := by
        show (arrV (E.2.2.1 0) n0 (fun j => .int (μ k0 kd0 i0 j))).slots.getD _ _ = _
        rw [Array.getD_eq_getD_getElem?, arrV_read _ _ (by omega)]
        rfl
      refine ⟨?_, ?_⟩
      · rw [e]
        rfl
      · rw [e]
        exact trivial)
    (g := F0 (x_m X) pc ls (.int n :: .int dp :: .ref (S.1 k kd i) :: .int sp :: .ref (S.1 k0 kd0 i0) :: st)) rfl (by rw [h.2.2.2.2.2.2]; exact hl.1) (rest := st) rfl (by rw [h.2.1]; exact hd) (Nat.le_trans hDD hG.1) (by
      have h8 := Nat.le_of_ble_eq_true hst
      have hg := hG.2.1
      have h9 : nativeFrameWords "java/lang/System" "arraycopy" 5 + 11 ≤ 30 := by decide
      show 2 * 0 + _ + _ ≤ _
      omega)
  have e1 : copied (vp_cell (E.2.2.1 0) (n0, .inl (μ k0 kd0 i0))) (vp_cell (E.2.2.1 0) (n1, .inl (μ k kd i))) sp dp n = vp_cell (E.2.2.1 0) (n1, .inl (va_cpy (μ k0 kd0 i0) (μ k kd i) sp.toNatClampNeg dp.toNatClampNeg n.toNatClampNeg)) := va_copied (fun z => .int z) _ _ _ _ h4
  rw [e1] at X' step
  have hlt : S.1 k kd i < H.size := (Array.getElem?_eq_some_iff.mp hc1).1
  have hheap : ((T.setVm vm').setCell (S.1 k kd i) (vp_cell (E.2.2.1 0) (n1, .inl (va_cpy (μ k0 kd0 i0) (μ k kd i) sp.toNatClampNeg dp.toNatClampNeg n.toNatClampNeg)))).heap = H.setIfInBounds (S.1 k kd i) (vp_cell (E.2.2.1 0) (n1, .inl (va_cpy (μ k0 kd0 i0) (μ k kd i) sp.toNatClampNeg dp.toNatClampNeg n.toNatClampNeg))) := by rw [← hT]; rfl
  have oq : ∀ q : Nat, q ≠ S.1 k kd i → (H.setIfInBounds (S.1 k kd i) (vp_cell (E.2.2.1 0) (n1, .inl (va_cpy (μ k0 kd0 i0) (μ k kd i) sp.toNatClampNeg dp.toNatClampNeg n.toNatClampNeg))))[q]? = H[q]? := fun q hq => by simp [Array.getElem?_setIfInBounds, Ne.symm hq]
  obtain ⟨t, a1, b1⟩ := kk _ _ ls (ch_I_puta hI hv hk (show (H.setIfInBounds (S.1 k kd i) _)[S.1 k kd i]? = some _ by simp [Array.getElem?_setIfInBounds, hlt]) oq) ⟨by simp; exact hS.1, fun q g1 g2 => by
      rw [oq q (fun e => g2 (by rw [e]; exact hI.2.2.1 _ _ _ hv))]
      exact hS.2.1 q g1 g2, fun q hq => by
      rcases List.mem_append.mp hq with h | h
      · exact hS.2.2 q h
      · obtain ⟨z, -, hz⟩ := List.mem_map.mp h
        rw [← hz]
        exact hI.2.2.1 _ _ _ hv⟩ hl _ hheap X'
  exact ⟨t, step t a1, b1⟩
/-- a static call of a nest mate -/
theorem ca_nsv (h : ch_H X E own cc nL) {D MC MS idx d n maxL : Nat} {y : MethodName} {bytes : ByteArray} {ret : Option FieldType} {stk As : List Value} {host : String} (hG : ch_G X D MC MS) (hL : (own, idx, y, host) ∈ ch_nest) (l2 : Cond.static y ∈ ch_GL) (l4 : Cond.initialized y.cls ∈ ch_GL) (l5 : Cond.code y bytes maxL ret ∈ ch_GL) (l6 : y.cls ≠ "java/lang/invoke/MethodHandle" ∧ y.cls ≠ "java/lang/invoke/VarHandle" ∧ (parseMethodDescriptor y.desc).map (fun d => d.parameters.length) = some n) (hM : ch_C E (x_l X) y bytes maxL ret d 0 0 S μ As (ch_F none S μ')) (hstk : stk = As.reverse ++ st)
    (hn : As.length = n) (hD : Nat.ble (d + 1) D = true) (hm : Nat.ble maxL 22 = true) (hkc : kc ≤ MC ∧ ks ≤ MS) (hst : Nat.ble (st.map fun v => v.category).sum 8 = true) (hd : decode cc pc = .ok (.invokestatic idx, 3))
    (kk : ch_W X E nL S μ' kc ks (pc + 3) L st) : ch_W X E nL S μ kc ks pc L stk := by
  intro H locs ls hI hS hl
  have hts := h.2.2.2.1
  have h1 := Nat.le_of_ble_eq_true hD
  have h2 := Nat.le_of_ble_eq_true hm
  subst hstk
  refine ch_back (a := As.toArray) hS hl (va_runSN (Ts := ch_GL) (own := own) (As := As) (rest := st) ⟨h.1, h.2.1, h.2.2.2.2.2.2, h.2.2.1, hts⟩ hM ⟨va_cnB (Ts := ch_GL) n hts (ch_good (fun w hw => (List.mem_cons.mp hw).elim (fun e => by rw [e]; exact l5) id)) rfl rfl rfl (h.2.2.2.2.1.2.2.2.2.2.2.2.1.1 _ hL) (hts _ l4) l6 ⟨Nat.le_trans h1 hG.1, ?_⟩, hts _ l2, trivial⟩ ⟨ch_blind, fun U hU hW => ⟨rfl, ch_ready h hI hS U hU hW⟩⟩ rfl hn hl.1 rfl (lv_room (m := x_m X) (pc := pc) (ls := ls) (Nat.le_of_ble_eq_true hst)) hd ⟨Nat.le_trans hkc.1 hG.2.2.1, Nat.le_trans hkc.2 hG.2.2.2⟩) (fun v' S' m' hp => by obtain ⟨rfl, rfl, rfl⟩ := hp; exact kk)
  have h3 := hG.2.1
  show 8 + (maxL + 11) + 41 * d ≤ _
  omega
end Cp
