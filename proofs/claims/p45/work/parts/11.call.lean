/-! functional contracts: what is answered, what the memory is then; their calls -/
def ch_F (v : Option Value) (S : ch_S) (μ : ch_M) : Option Value → ch_S → ch_M → Prop := fun v' S' μ' => v' = v ∧ S' = S ∧ μ' = μ
section Fun
variable {X : ch_X} {E : ch_E} {own : String} {cc : ByteArray} {nL : Nat} {S : ch_S} {μ μ' : ch_M} {kc ks pc : Nat} {L : List (Nat × Value)} {st : List Value}
theorem ca_vx (h : ch_H X E own cc nL) {D MC MS idx d n maxL : Nat} {y : MethodName} {bytes : ByteArray} {ret : Option FieldType} {k kd i ci : Nat} {q : vw_C} {stk As : List Value} {v : Option Value} (hG : ch_G X D MC MS) (hL : ch_LV own idx y bytes maxL ret n) (hM : ch_C E (x_l X) y bytes maxL ret d 0 0 S μ (.ref (S.1 k kd i) :: As) (ch_F v S μ')) (hc : ch_cl[ci]? = some q) (hq : q.1 = y.cls) (hk : ch_kd kd = .inl ci) (hv : S.2.1 k kd i) (hstk : stk = As.reverse ++ .ref (S.1 k kd i) :: st)
    (hn : As.length = n) (hD : Nat.ble (d + 1) D = true) (hm : Nat.ble maxL 22 = true) (hkc : kc ≤ MC ∧ ks ≤ MS) (hst : Nat.ble (st.map fun v => v.category).sum 8 = true) (hd : decode cc pc = .ok (.invokevirtual idx, 3))
    (kk : ch_W X E nL S μ' kc ks (pc + 3) L (v.toList ++ st)) : ch_W X E nL S μ kc ks pc L stk :=
  ca_callV h hG hL hM hc hq hk hv hstk hn hD hm hkc (Nat.le_of_ble_eq_true hst) hd (fun v' S' m' hp => by obtain ⟨rfl, rfl, rfl⟩ := hp; exact kk)
theorem ca_vi (h : ch_H X E own cc nL) {D MC MS idx d n maxL : Nat} {y : MethodName} {bytes : ByteArray} {ret : Option FieldType} {k kd i ci : Nat} {q : vw_C} {stk As : List Value} {r : Int32} (hG : ch_G X D MC MS) (hL : ch_LV own idx y bytes maxL ret n) (hM : ch_C E (x_l X) y bytes maxL ret d 0 0 S μ (.ref (S.1 k kd i) :: As) (ch_F (some (.int r)) S μ')) (hc : ch_cl[ci]? = some q) (hq : q.1 = y.cls) (hk : ch_kd kd = .inl ci) (hv : S.2.1 k kd i) (hstk : stk = As.reverse ++ .ref (S.1 k kd i) :: st)
    (hn : As.length = n) (hD : Nat.ble (d + 1) D = true) (hm : Nat.ble maxL 22 = true) (hkc : kc ≤ MC ∧ ks ≤ MS) (hst : Nat.ble (st.map fun v => v.category).sum 8 = true) (hd : decode cc pc = .ok (.invokevirtual idx, 3))
    (kk : ch_W X E nL S μ' kc ks (pc + 3) L (.int r :: st)) : ch_W X E nL S μ kc ks pc L stk := ca_vx h hG hL hM hc hq hk hv hstk hn hD hm hkc hst hd kk
theorem ca_vr (h : ch_H X E own cc nL) {D MC MS idx d n maxL : Nat} {y : MethodName} {bytes : ByteArray} {ret : Option FieldType} {k kd i ci : Nat} {q : vw_C} {stk As : List Value} {r : Nat} (hG : ch_G X D MC MS) (hL : ch_LV own idx y bytes maxL ret n) (hM : ch_C E (x_l X) y bytes maxL ret d 0 0 S μ (.ref (S.1 k kd i) :: As) (ch_F (some (.ref r)) S μ')) (hc : ch_cl[ci]? = some q) (hq : q.1 = y.cls) (hk : ch_kd kd = .inl ci) (hv : S.2.1 k kd i) (hstk : stk = As.reverse ++ .ref (S.1 k kd i) :: st)
    (hn : As.length = n) (hD : Nat.ble (d + 1) D = true) (hm : Nat.ble maxL 22 = true) (hkc : kc ≤ MC ∧ ks ≤ MS) (hst : Nat.ble (st.map fun v => v.category).sum 8 = true) (hd : decode cc pc = .ok (.invokevirtual idx, 3))
    (kk : ch_W X E nL S μ' kc ks (pc + 3) L (.ref r :: st)) : ch_W X E nL S μ kc ks pc L stk := ca_vx h hG hL hM hc hq hk hv hstk hn hD hm hkc hst hd kk
theorem ca_vv (h : ch_H X E own cc nL) {D MC MS idx d n maxL : Nat} {y : MethodName} {bytes : ByteArray} {ret : Option FieldType} {k kd i ci : Nat} {q : vw_C} {stk As : List Value} (hG : ch_G X D MC MS) (hL : ch_LV own idx y bytes maxL ret n) (hM : ch_C E (x_l X) y bytes maxL ret d 0 0 S μ (.ref (S.1 k kd i) :: As) (ch_F none S μ')) (hc : ch_cl[ci]? = some q) (hq : q.1 = y.cls) (hk : ch_kd kd = .inl ci) (hv : S.2.1 k kd i) (hstk : stk = As.reverse ++ .ref (S.1 k kd i) :: st)
    (hn : As.length = n) (hD : Nat.ble (d + 1) D = true) (hm : Nat.ble maxL 22 = true) (hkc : kc ≤ MC ∧ ks ≤ MS) (hst : Nat.ble (st.map fun v => v.category).sum 8 = true) (hd : decode cc pc = .ok (.invokevirtual idx, 3))
    (kk : ch_W X E nL S μ' kc ks (pc + 3) L st) : ch_W X E nL S μ kc ks pc L stk := ca_vx h hG hL hM hc hq hk hv hstk hn hD hm hkc hst hd kk
theorem ca_sx (h : ch_H X E own cc nL) {D MC MS idx d n maxL : Nat} {y : MethodName} {bytes : ByteArray} {ret : Option FieldType} {stk As : List Value} {v : Option Value} (hG : ch_G X D MC MS) (hL : ch_LS own idx y bytes maxL ret n) (hM : ch_C E (x_l X) y bytes maxL ret d 0 0 S μ As (ch_F v S μ')) (hstk : stk = As.reverse ++ st)
    (hn : As.length = n) (hD : Nat.ble (d + 1) D = true) (hm : Nat.ble maxL 22 = true) (hkc : kc ≤ MC ∧ ks ≤ MS) (hst : Nat.ble (st.map fun v => v.category).sum 8 = true) (hd : decode cc pc = .ok (.invokestatic idx, 3))
    (kk : ch_W X E nL S μ' kc ks (pc + 3) L (v.toList ++ st)) : ch_W X E nL S μ kc ks pc L stk :=
  ca_callS h hG hL hM hstk hn hD hm hkc (Nat.le_of_ble_eq_true hst) hd (fun v' S' m' hp => by obtain ⟨rfl, rfl, rfl⟩ := hp; exact kk)
theorem ca_si (h : ch_H X E own cc nL) {D MC MS idx d n maxL : Nat} {y : MethodName} {bytes : ByteArray} {ret : Option FieldType} {stk As : List Value} {r : Int32} (hG : ch_G X D MC MS) (hL : ch_LS own idx y bytes maxL ret n) (hM : ch_C E (x_l X) y bytes maxL ret d 0 0 S μ As (ch_F (some (.int r)) S μ')) (hstk : stk = As.reverse ++ st)
    (hn : As.length = n) (hD : Nat.ble (d + 1) D = true) (hm : Nat.ble maxL 22 = true) (hkc : kc ≤ MC ∧ ks ≤ MS) (hst : Nat.ble (st.map fun v => v.category).sum 8 = true) (hd : decode cc pc = .ok (.invokestatic idx, 3))
    (kk : ch_W X E nL S μ' kc ks (pc + 3) L (.int r :: st)) : ch_W X E nL S μ kc ks pc L stk := ca_sx h hG hL hM hstk hn hD hm hkc hst hd kk
theorem ca_sr (h : ch_H X E own cc nL) {D MC MS idx d n maxL : Nat} {y : MethodName} {bytes : ByteArray} {ret : Option FieldType} {stk As : List Value} {r : Nat} (hG : ch_G X D MC MS) (hL : ch_LS own idx y bytes maxL ret n) (hM : ch_C E (x_l X) y bytes maxL ret d 0 0 S μ As (ch_F (some (.ref r)) S μ')) (hstk : stk = As.reverse ++ st)
    (hn : As.length = n) (hD : Nat.ble (d + 1) D = true) (hm : Nat.ble maxL 22 = true) (hkc : kc ≤ MC ∧ ks ≤ MS) (hst : Nat.ble (st.map fun v => v.category).sum 8 = true) (hd : decode cc pc = .ok (.invokestatic idx, 3))
    (kk : ch_W X E nL S μ' kc ks (pc + 3) L (.ref r :: st)) : ch_W X E nL S μ kc ks pc L stk := ca_sx h hG hL hM hstk hn hD hm hkc hst hd kk
theorem ca_sv (h : ch_H X E own cc nL) {D MC MS idx d n maxL : Nat} {y : MethodName} {bytes : ByteArray} {ret : Option FieldType} {stk As : List Value} (hG : ch_G X D MC MS) (hL : ch_LS own idx y bytes maxL ret n) (hM : ch_C E (x_l X) y bytes maxL ret d 0 0 S μ As (ch_F none S μ')) (hstk : stk = As.reverse ++ st)
    (hn : As.length = n) (hD : Nat.ble (d + 1) D = true) (hm : Nat.ble maxL 22 = true) (hkc : kc ≤ MC ∧ ks ≤ MS) (hst : Nat.ble (st.map fun v => v.category).sum 8 = true) (hd : decode cc pc = .ok (.invokestatic idx, 3))
    (kk : ch_W X E nL S μ' kc ks (pc + 3) L st) : ch_W X E nL S μ kc ks pc L stk := ca_sx h hG hL hM hstk hn hD hm hkc hst hd kk
/-- fewer locals, in another order -/
theorem ca_pick (is : List Nat) {L' : List (Nat × Value)} (hL : lv_pick L is = L') (kk : ch_W X E nL S μ kc ks pc L' st) : ch_W X E nL S μ kc ks pc L st :=
  fun H locs ls hI hS hl => kk H locs ls hI hS (lv_sub hl is hL)
/-- the memory under another name -/
theorem ca_mem {μ'' : ch_M} (e : μ = μ'') (kk : ch_W X E nL S μ'' kc ks pc L st) : ch_W X E nL S μ kc ks pc L st := by rw [e]; exact kk
theorem ca_top {x y : Int32} (e : x = y) (kk : ch_W X E nL S μ kc ks pc L (.int y :: st)) : ch_W X E nL S μ kc ks pc L (.int x :: st) := by rw [e]; exact kk
end Fun
/-- numbers -/
theorem cn_lt31 (x : Int32) : Int32.toNatClampNeg x < 2 ^ 31 := by
  have h1 : (x.toInt.toNat : Int) ≤ max x.toInt 0 := by omega
  have h2 := x.toInt_lt
  show x.toInt.toNat < _
  omega
theorem cn_nI {n : Nat} (h : n < 2 ^ 31) : Int32.toNatClampNeg (nI n) = n := nI_clamp h
theorem nI_cn {x : Int32} (h : ¬ x < 0) : nI (Int32.toNatClampNeg x) = x := by
  obtain ⟨j, hj, rfl⟩ := nI_of h
  rw [cn_nI hj]
theorem lt_cn {x : Int32} {n : Nat} (hn : n ≤ Int32.toNatClampNeg x) : nI n < x ↔ n < Int32.toNatClampNeg x := by
  have hb := cn_lt31 x
  constructor
  · intro h
    by_cases h0 : x < 0
    · exact absurd (Int32.lt_trans h h0) (nI_pos (by omega))
    · rw [← nI_cn h0] at h
      exact (nI_ltI (by omega) hb).mp h
  · intro h
    have h0 : ¬ x < 0 := by
      intro h0
      have h2 : x.toInt < 0 := by simpa using Int32.lt_iff_toInt_lt.mp h0
      have h3 : x.toInt.toNat = 0 := by omega
      have h4 : Int32.toNatClampNeg x = 0 := h3
      omega
    rw [← nI_cn h0]
    exact (nI_ltI (by omega) hb).mpr h
theorem vp_lt {x : Int32} {n : Nat} {m : Int32} (h0 : ¬ x < 0) (h1 : x < m) (hm : m = nI n) (hn : n < 2 ^ 31) : vp_in x n := by
  intro h
  rcases h with h | h
  · exact h0 h
  · obtain ⟨j, hj, rfl⟩ := nI_of h0
    rw [hm] at h1
    have := (nI_ltI hj hn).mp h1
    rw [nI_clamp hj] at h
    omega
theorem cn_in {x : Int32} {n : Nat} (h : vp_in x n) : Int32.toNatClampNeg x < n := Nat.not_le.mp fun q => h (Or.inr q)
