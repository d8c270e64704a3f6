/-! THE REFERENCE, what writes: a row w' in place of w -/
def r_wr (μ : ch_M) (w : Nat → Int32) : ch_M := up μ 16 (na (μ 16) 23 0 w)
theorem r_wr_at (μ : ch_M) (w : Nat → Int32) : r_wr μ w 16 23 0 = w := by unfold r_wr; rw [up_s]; funext j; rw [na_at, if_pos ⟨rfl, rfl⟩]
theorem r_wr_put (μ : ch_M) (w : Nat → Int32) (j : Nat) (v : Int32) : up (r_wr μ w) 16 (nw (r_wr μ w 16) 23 0 j v) = r_wr μ (up w j v) := by unfold r_wr; rw [up_s, na_nw, up_up]
theorem r_wr_id (μ : ch_M) : r_wr μ (μ 16 23 0) = μ := by unfold r_wr; rw [na_id, up_id]
theorem r_wr_wr (μ : ch_M) (w v : Nat → Int32) : r_wr (r_wr μ w) v = r_wr μ v := by unfold r_wr; rw [up_s, na_na, up_up]
def ch_FX (v : Option Value) (S : ch_S) (P : ch_M → Prop) : Option Value → ch_S → ch_M → Prop := fun v' S' μ' => v' = v ∧ S' = S ∧ P μ'
section Rel
variable {X : ch_X} {E : ch_E} {own : String} {cc : ByteArray} {nL : Nat} {S : ch_S} {μ : ch_M} {kc ks pc : Nat} {L : List (Nat × Value)} {st : List Value}
theorem ca_vX (h : ch_H X E own cc nL) {D MC MS idx d n maxL : Nat} {y : MethodName} {bytes : ByteArray} {ret : Option FieldType} {k kd i ci : Nat} {q : vw_C} {stk As : List Value} {v : Option Value} {P : ch_M → Prop} (hG : ch_G X D MC MS) (hL : ch_LV own idx y bytes maxL ret n) (hM : ch_C E (x_l X) y bytes maxL ret d 0 0 S μ (.ref (S.1 k kd i) :: As) (ch_FX v S P)) (hc : ch_cl[ci]? = some q) (hq : q.1 = y.cls) (hk : ch_kd kd = .inl ci) (hv : S.2.1 k kd i) (hstk : stk = As.reverse ++ .ref (S.1 k kd i) :: st)
    (hn : As.length = n) (hD : Nat.ble (d + 1) D = true) (hm : Nat.ble maxL 77 = true) (hkc : kc ≤ MC ∧ ks ≤ MS) (hst : Nat.ble (st.map fun v => v.category).sum 8 = true) (hd : decode cc pc = .ok (.invokevirtual idx, 3))
    (kk : ∀ μ', P μ' → ch_W X E nL S μ' kc ks (pc + 3) L (v.toList ++ st)) : ch_W X E nL S μ kc ks pc L stk :=
  ca_callV h hG hL hM hc hq hk hv hstk hn hD hm hkc (Nat.le_of_ble_eq_true hst) hd (fun v' S' m' hp => by obtain ⟨rfl, rfl, hp⟩ := hp; exact kk m' hp)
theorem ca_vXv (h : ch_H X E own cc nL) {D MC MS idx d n maxL : Nat} {y : MethodName} {bytes : ByteArray} {ret : Option FieldType} {k kd i ci : Nat} {q : vw_C} {stk As : List Value} {P : ch_M → Prop} (hG : ch_G X D MC MS) (hL : ch_LV own idx y bytes maxL ret n) (hM : ch_C E (x_l X) y bytes maxL ret d 0 0 S μ (.ref (S.1 k kd i) :: As) (ch_FX none S P)) (hc : ch_cl[ci]? = some q) (hq : q.1 = y.cls) (hk : ch_kd kd = .inl ci) (hv : S.2.1 k kd i) (hstk : stk = As.reverse ++ .ref (S.1 k kd i) :: st)
    (hn : As.length = n) (hD : Nat.ble (d + 1) D = true) (hm : Nat.ble maxL 77 = true) (hkc : kc ≤ MC ∧ ks ≤ MS) (hst : Nat.ble (st.map fun v => v.category).sum 8 = true) (hd : decode cc pc = .ok (.invokevirtual idx, 3))
    (kk : ∀ μ', P μ' → ch_W X E nL S μ' kc ks (pc + 3) L st) : ch_W X E nL S μ kc ks pc L stk := ca_vX h hG hL hM hc hq hk hv hstk hn hD hm hkc hst hd kk
theorem ca_vXi (h : ch_H X E own cc nL) {D MC MS idx d n maxL : Nat} {y : MethodName} {bytes : ByteArray} {ret : Option FieldType} {k kd i ci : Nat} {q : vw_C} {stk As : List Value} {r : Int32} {P : ch_M → Prop} (hG : ch_G X D MC MS) (hL : ch_LV own idx y bytes maxL ret n) (hM : ch_C E (x_l X) y bytes maxL ret d 0 0 S μ (.ref (S.1 k kd i) :: As) (ch_FX (some (.int r)) S P)) (hc : ch_cl[ci]? = some q) (hq : q.1 = y.cls) (hk : ch_kd kd = .inl ci) (hv : S.2.1 k kd i) (hstk : stk = As.reverse ++ .ref (S.1 k kd i) :: st)
    (hn : As.length = n) (hD : Nat.ble (d + 1) D = true) (hm : Nat.ble maxL 77 = true) (hkc : kc ≤ MC ∧ ks ≤ MS) (hst : Nat.ble (st.map fun v => v.category).sum 8 = true) (hd : decode cc pc = .ok (.invokevirtual idx, 3))
    (kk : ∀ μ', P μ' → ch_W X E nL S μ' kc ks (pc + 3) L (.int r :: st)) : ch_W X E nL S μ kc ks pc L stk := ca_vX h hG hL hM hc hq hk hv hstk hn hD hm hkc hst hd kk
end Rel
theorem r_M_congr {n n' : ch_N} {w w' : Nat → Int32} {i : Nat} (h : r_M n w i) (hw : ∀ f, f < 91 → w' (210 + 91 * i + f) = w (210 + 91 * i + f)) (h3 : n' 3 i = n 3 i) (h4 : n' 4 i = n 4 i) (h5 : n' 5 i = n 5 i) (h6 : n' 6 i = n 6 i) (h0 : k_cc n' = k_cc n) (h2 : ∀ j, n' 2 j 0 = n 2 j 0) (hct : ∀ c, c < 8 → Int32.toNatClampNeg (n 5 i c) ≤ 8) : r_M n' w' i := by
  obtain ⟨a1, a2, a3, a4, a5, a6, a7, a8, a9, a10, a11, a12, a13, a14⟩ := h
  unfold r_M
  rw [h3, h4, h5, h6, h0]
  refine ⟨fun f hf => by rw [hw f (by omega)]; exact a1 f hf, by rw [hw 8 (by omega)]; exact a2, fun ht => ⟨by rw [hw 7 (by omega)]; exact (a3 ht).1, fun c hc => ?_⟩, fun hr => ⟨by rw [hw 10 (by omega)]; exact (a4 hr).1, by rw [hw 9 (by omega)]; exact (a4 hr).2⟩, a5, a6, a7, a8, a9, a10, a11, fun ht c hc hr => by rw [h2]; exact a12 ht c hc hr, a13, a14⟩
  obtain ⟨b1, b2, b3⟩ := (a3 ht).2 c hc
  refine ⟨by rw [hw (11 + c) (by omega)]; exact b1, by rw [hw (19 + c) (by omega)]; exact b2, fun k hk => ?_⟩
  have := hct c hc
  rw [hw (27 + 8 * c + k) (by omega)]
  exact b3 k hk
theorem r_R_congr {n n' : ch_N} {w w' : Nat → Int32} (h : r_R n w) (hw : ∀ j, j < 210 → w' j = w j) (h2 : n' 2 = n 2) (h0 : k_cc n' = k_cc n) : r_R n' w' := by
  obtain ⟨⟨b1, b2⟩, b3, b4, b5, b6⟩ := h
  unfold r_R
  rw [h2, h0, hw 1 (by omega)]
  refine ⟨⟨b1, b2⟩, fun r hr => ?_, fun r t hr ht e1 e2 => ?_, fun a b ha hb hz => ?_, b6⟩
  · obtain ⟨a, b, g⟩ := b3 r hr
    refine ⟨a, b, ?_⟩
    rw [hw _ (by omega), hw _ (by omega), hw _ (by omega), hw _ (by omega), hw _ (by omega)]
    exact g
  · rw [hw _ (by omega), hw (90 + 5 * t) (by omega)] at e1
    rw [hw _ (by omega), hw (90 + 5 * t + 1) (by omega)] at e2
    exact b4 r t hr ht e1 e2
  · obtain ⟨r, hr, g1, g2⟩ := b5 a b ha hb hz
    exact ⟨r, hr, by rw [hw _ (by omega)]; exact g1, by rw [hw _ (by omega)]; exact g2⟩
/-- one mobile changed on both sides -/
theorem r_N_mob {n n' : ch_N} {w w' : Nat → Int32} {m : Nat} (h : r_N n w) (hm : m < k_mc n) (hk : ∀ kd, kd ≠ 3 → kd ≠ 4 → kd ≠ 5 → kd ≠ 6 → n' kd = n kd) (hn : ∀ kd i, i ≠ m → n' kd i = n kd i)
    (hw : ∀ j, j < 210 + 91 * m ∨ 210 + 91 * m + 91 ≤ j → w' j = w j) (hM : r_M n' w' m) (hwf : k_wf n') : r_N n' w' := by
  have h0 : n' 0 = n 0 := hk 0 (by decide) (by decide) (by decide) (by decide)
  have h1 : n' 1 = n 1 := hk 1 (by decide) (by decide) (by decide) (by decide)
  have h2 : n' 2 = n 2 := hk 2 (by decide) (by decide) (by decide) (by decide)
  have h7 : n' 7 = n 7 := hk 7 (by decide) (by decide) (by decide) (by decide)
  have ec : k_cc n' = k_cc n := by unfold k_cc; rw [h0]
  have em : k_mc n' = k_mc n := by unfold k_mc; rw [h0]
  have h58 : ∀ i c, i < 13 → c < 8 → Int32.toNatClampNeg (n 5 i c) ≤ 8 := fun i c hi hc => (r_c58 h hi hc).2
  have hcc8 := h.2.2.2.2.2.2.1
  have hmm12 := h.2.2.2.2.2.1
  obtain ⟨a1, ⟨a2, aK⟩, a3, aR, aM, -⟩ := h
  refine ⟨fun j hj => by rw [hw j (by omega), h0]; exact a1 j hj, ⟨fun t ht => by rw [hw _ (by omega), h7]; exact a2 t ht, ?_⟩, fun c f hc hf => by rw [hw _ (by rw [ec] at hc; omega), h1]; exact a3 c f (by rw [ec] at hc; exact hc) hf, ?_, fun i hi => ?_, hwf⟩
  · unfold r_K at *
    rw [h0, h1, ec]
    exact aK
  · exact r_R_congr aR (fun j hj => hw j (by omega)) h2 ec
  · rw [em] at hi
    by_cases e : i = m
    · rw [e]; exact hM
    · exact r_M_congr (aM i hi) (fun f hf => hw _ (by omega)) (hn 3 i e) (hn 4 i e) (hn 5 i e) (hn 6 i e) ec (fun j => by rw [h2]) (fun c hc => h58 i c (by omega) hc)
/-- a total counted -/
theorem r_N_tot {n : ch_N} {w : Nat → Int32} {t : Nat} (h : r_N n w) (ht : t < 8) : r_N (k_cnt n t) (up w (10 + t) (w (10 + t) + 1)) := by
  have h0 : (k_cnt n t) 0 = n 0 := k_cnt_0 n t
  have hk : ∀ kd, kd ≠ 7 → (k_cnt n t) kd = n kd := fun kd hd => nw_k hd
  have ec : k_cc (k_cnt n t) = k_cc n := by unfold k_cc; rw [h0]
  have em : k_mc (k_cnt n t) = k_mc n := by unfold k_mc; rw [h0]
  have h58 : ∀ i c, i < 13 → c < 8 → Int32.toNatClampNeg (n 5 i c) ≤ 8 := fun i c hi hc => (r_c58 h hi hc).2
  have hcc8 := h.2.2.2.2.2.2.1
  have hmm12 := h.2.2.2.2.2.1
  have hwf := k_cnt_wf h.2.2.2.2.2 t
  obtain ⟨a1, ⟨a2, aK⟩, a3, aR, aM, -⟩ := h
  refine ⟨fun j hj => by rw [up_n (by omega), h0]; exact a1 j hj, ⟨fun u hu => ?_, ?_⟩, fun c f hc hf => by rw [up_n (by omega), hk 1 (by decide)]; exact a3 c f (by rw [ec] at hc; exact hc) hf, ?_, fun i hi => ?_, hwf⟩
  · unfold k_cnt
    rw [nw_at]
    by_cases e : u = t
    · subst e
      rw [up_s, if_pos ⟨rfl, rfl, rfl⟩, a2 u hu]
    · rw [up_n (by omega), if_neg (fun z => e z.2.2)]
      exact a2 u hu
  · unfold r_K at *
    rw [h0, hk 1 (by decide), ec]
    exact aK
  · obtain ⟨⟨b1, b2⟩, b3, b4, b5, b6⟩ := aR
    unfold r_R
    rw [hk 2 (by decide), ec, up_n (show (1 : Nat) ≠ 10 + t by omega)]
    refine ⟨⟨b1, b2⟩, fun r hr => ?_, fun r u hr hu e1 e2 => ?_, fun a b ha hb hz => ?_, b6⟩
    · obtain ⟨a, b, g⟩ := b3 r hr
      refine ⟨a, b, ?_⟩
      rw [up_n (by omega), up_n (by omega), up_n (by omega), up_n (by omega), up_n (by omega)]
      exact g
    · rw [up_n (by omega), up_n (by omega)] at e1 e2
      exact b4 r u hr hu e1 e2
    · obtain ⟨r, hr, g1, g2⟩ := b5 a b ha hb hz
      exact ⟨r, hr, by rw [up_n (by omega)]; exact g1, by rw [up_n (by omega)]; exact g2⟩
  · rw [em] at hi
    exact r_M_congr (aM i hi) (fun f hf => up_n (by omega)) (by rw [hk 3 (by decide)]) (by rw [hk 4 (by decide)]) (by rw [hk 5 (by decide)]) (by rw [hk 6 (by decide)]) ec (fun j => by rw [hk 2 (by decide)]) (fun c hc => h58 i c (by omega) hc)
