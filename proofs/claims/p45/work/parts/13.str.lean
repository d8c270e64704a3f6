/-! STRING CONSTANTS: their fields and bytes, calls of their methods -/
/-- character i of String constant a; its length -/
def k_chr (a i : Nat) : Int32 := (ch_byt.getD a []).getD i 0
def k_len (a : Nat) : Nat := ch_len.getD a 0
section St
variable {X : ch_X} {E : ch_E} {own : String} {cc : ByteArray} {nL : Nat} {S : ch_S} {μ μ' : ch_M} {kc ks pc : Nat} {L : List (Nat × Value)} {st : List Value} {a : Nat}
theorem ca_sval (h : ch_H X E RJ0 cc nL) (ha : a < ch_nS) (hd : decode cc pc = .ok (.getfield 9, 3)) (kk : ch_W X E nL S μ kc ks (pc + 3) L (.ref (E.2.2.2.2 a) :: st)) : ch_W X E nL S μ kc ks pc L (.ref (E.2.2.2.1 a) :: st) :=
  fun H locs ls hI hS hl => vk_getf h.1 h.2.1 (h.2.2.2.2.1.2.2.2.1.1 a ha).2.2.1 hS h.2.2.1 (h.2.2.2.1 _ kw_1322) (fun _ z => z) hd (kk H locs ls hI hS hl)
theorem ca_scod (h : ch_H X E RJ0 cc nL) (ha : a < ch_nS) (hd : decode cc pc = .ok (.getfield 15, 3)) (kk : ch_W X E nL S μ kc ks (pc + 3) L (.int 0 :: st)) : ch_W X E nL S μ kc ks pc L (.ref (E.2.2.2.1 a) :: st) :=
  fun H locs ls hI hS hl => vk_getf h.1 h.2.1 (h.2.2.2.2.1.2.2.2.1.1 a ha).2.1 hS h.2.2.1 (h.2.2.2.1 _ kw_1323) (fun _ z => z) hd (kk H locs ls hI hS hl)
theorem ca_gcmp (h : ch_H X E RJ0 cc nL) (hd : decode cc pc = .ok (.getstatic 38, 3)) (kk : ch_W X E nL S μ kc ks (pc + 3) L (.int 1 :: st)) : ch_W X E nL S μ kc ks pc L st :=
  fun H locs ls hI hS hl => va_gets h.1 h.2.1 h.2.2.2.2.1.2.2.2.2.1 hS h.2.2.1 (h.2.2.2.1 _ kw_872) (fun _ z => z) hd (kk H locs ls hI hS hl)
theorem ca_gfor (h : ch_H X E RJ0 cc nL) (hd : decode cc pc = .ok (.getstatic 1053, 3)) (kn : ch_W X E nL S μ kc ks (pc + 3) L (.null :: st)) (kr : ∀ r : Nat, ch_W X E nL S μ kc ks (pc + 3) L (.ref r :: st)) : ch_W X E nL S μ kc ks pc L st := by
  intro H locs ls hI hS hl
  rcases h.2.2.2.2.1.2.2.2.2.2.2.2.2.2.2.2.1 with hz | ⟨t, hz⟩
  · exact va_gets h.1 h.2.1 hz hS h.2.2.1 (h.2.2.2.1 _ kw_888) (fun _ z => z) hd (kn H locs ls hI hS hl)
  · exact va_gets h.1 h.2.1 hz hS h.2.2.1 (h.2.2.2.1 _ kw_888) (fun _ z => z) hd (kr t H locs ls hI hS hl)
theorem ca_sald (h : ch_H X E own cc nL) (ha : a < ch_nS) {i : Int32} (hin : vp_in i (k_len a)) (hd : decode cc pc = .ok (.baload, 1)) (kk : ch_W X E nL S μ kc ks (pc + 1) L (.int (k_chr a (Int32.toNatClampNeg i)) :: st)) : ch_W X E nL S μ kc ks pc L (.int i :: .ref (E.2.2.2.2 a) :: st) :=
  fun H locs ls hI hS hl => va_tb h.1 h.2.1 (h.2.2.2.2.1.2.2.2.1.1 a ha).2.2.2 hS hin rfl hd (kk H locs ls hI hS hl)
theorem ca_slen (h : ch_H X E own cc nL) (ha : a < ch_nS) (hd : decode cc pc = .ok (.arraylength, 1)) (kk : ch_W X E nL S μ kc ks (pc + 1) L (.int (nI (k_len a)) :: st)) : ch_W X E nL S μ kc ks pc L (.ref (E.2.2.2.2 a) :: st) :=
  fun H locs ls hI hS hl => va_tlen h.1 h.2.1 (h.2.2.2.2.1.2.2.2.1.1 a ha).2.2.2 hS rfl hd (kk H locs ls hI hS hl)
/-- a call on a String constant -/
theorem ca_stx (h : ch_H X E own cc nL) {D MC MS idx d n maxL : Nat} {y : MethodName} {bytes : ByteArray} {ret : Option FieldType} {stk As : List Value} {r : Int32} (ha : a < ch_nS) (hG : ch_G X D MC MS) (hL : ch_LV own idx y bytes maxL ret n) (hM : ch_C E (x_l X) y bytes maxL ret d 0 0 S μ (.ref (E.2.2.2.1 a) :: As) (ch_F (some (.int r)) S μ')) (hq : y.cls = "java/lang/String") (hstk : stk = As.reverse ++ .ref (E.2.2.2.1 a) :: st)
    (hn : As.length = n) (hD : Nat.ble (d + 1) D = true) (hm : Nat.ble maxL 22 = true) (hkc : kc ≤ MC ∧ ks ≤ MS) (hst : Nat.ble (st.map fun v => v.category).sum 8 = true) (hd : decode cc pc = .ok (.invokevirtual idx, 3))
    (kk : ch_W X E nL S μ' kc ks (pc + 3) L (.int r :: st)) : ch_W X E nL S μ kc ks pc L stk := by
  intro H locs ls hI hS hl
  obtain ⟨l1, l2, l3, l4, l5, l6⟩ := hL
  have hts := h.2.2.2.1
  subst hstk
  refine ch_back (a := (Value.ref (E.2.2.2.1 a) :: As).toArray) hS hl (va_runV (Ts := ch_GL) (own := own) (C := y.cls) (b := E.2.2.2.1 a) (As := As) (rest := st) ⟨h.1, h.2.1, h.2.2.2.2.2.2, h.2.2.1, hts⟩ hM ⟨ch_callB h hG hD hm l1 l4 l5 l6, hts _ l2, hts _ l3⟩ ⟨ch_blind, ?_, fun U hU hW => ⟨rfl, ch_ready h hI hS U hU hW⟩⟩ rfl hn hl.1 rfl (lv_room (m := x_m X) (pc := pc) (ls := ls) (Nat.le_of_ble_eq_true hst)) hd ⟨Nat.le_trans hkc.1 hG.2.2.1, Nat.le_trans hkc.2 hG.2.2.2⟩) (fun v' S' m' hp => by obtain ⟨rfl, rfl, rfl⟩ := hp; exact kk)
  rw [hq]
  exact vk_recv h.2.2.2.2.1.2.2.2.1 ha hS
end St
section Sc
variable {X : ch_X} {E : ch_E} {own : String} {cc : ByteArray} {nL : Nat} {S : ch_S} {μ : ch_M} {kc ks pc : Nat} {L : List (Nat × Value)} {st : List Value}
theorem ch_H.sc (h : ch_H X E own cc nL) : ch_SC E (x_s X) (x_s X).heap := h.2.2.2.2.1.2.2.2.2.2.2.2.2.2.2.2.2
/-- the script: an array below the base -/
theorem ca_sld (h : ch_H X E own cc nL) {x : Int32} (hin : vp_in x (ch_sn E)) (hd : decode cc pc = .ok (.iaload, 1)) (kk : ch_W X E nL S μ kc ks (pc + 1) L (.int (ch_sx E x.toNatClampNeg) :: st)) : ch_W X E nL S μ kc ks pc L (.int x :: .ref (ch_sb E) :: st) :=
  fun H locs ls hI hS hl => va_sld h.1 h.2.1 h.sc.1 h.sc.lt (Nat.not_le.mpr h.sc.2.1) hS hin hd (kk H locs ls hI hS hl)
theorem ca_scl (h : ch_H X E own cc nL) (hd : decode cc pc = .ok (.arraylength, 1)) (kk : ch_W X E nL S μ kc ks (pc + 1) L (.int (nI (ch_sn E)) :: st)) : ch_W X E nL S μ kc ks pc L (.ref (ch_sb E) :: st) :=
  fun H locs ls hI hS hl => va_slen h.1 h.2.1 h.sc.1 h.sc.lt (Nat.not_le.mpr h.sc.2.1) hS hd (kk H locs ls hI hS hl)
end Sc
section Lw
variable {X : ch_X} {E : ch_E} {own : String} {cc : ByteArray} {nL : Nat} {S : ch_S} {μ : ch_M} {kc ks pc : Nat} {L : List (Nat × Value)} {st : List Value}
theorem ca_ldcw (h : ch_H X E own cc nL) {i : Nat} {v : Int32} (hw : Cond.constant own i v ∈ ch_GL) (hd : decode cc pc = .ok (.ldc_w i, 3)) (k : ch_W X E nL S μ kc ks (pc + 3) L (.int v :: st)) : ch_W X E nL S μ kc ks pc L st :=
  fun H locs ls hI hS hl => lv_ldcw h.1 h.2.1 h.2.2.1 (h.2.2.2.1 _ hw) hd (k H locs ls hI hS hl)
end Lw
