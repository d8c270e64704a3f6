/-! THE LAW: rows of longs and of the script; methods with handlers -/
section
variable {X : ch_X} {E : ch_E} {own : String} {cc : ByteArray} {nL : Nat} {S : ch_S} {μ : ch_M} {kc ks pc : Nat} {L : List (Nat × Value)} {st : List Value}
theorem ch_arrL9 {H : Heap} {k kd i t n : Nat} (hI : ch_I E S μ H) (hv : S.2.1 k kd i) (hk : ch_kd kd = .inr (t, 2, n)) : H[S.1 k kd i]? = some (vp_cell (E.2.2.1 t) (n, .inr (.inl (fun j => (μ k kd i j).toInt64)))) := by
  have h := hI.1 k kd i hv
  rw [ch_ct_l hk] at h
  exact h
theorem ca_lald (h : ch_H X E own cc nL) {k kd i n a : Nat} {x : Int32} (hk : ch_kd kd = .inr (6, 2, n)) (hv : S.2.1 k kd i) (ea : S.1 k kd i = a) (hin : vp_in x n) (hd : decode cc pc = .ok (.laload, 1)) (kk : ch_W X E nL S μ kc ks (pc + 1) L (.long (μ k kd i x.toNatClampNeg).toInt64 :: st)) : ch_W X E nL S μ kc ks pc L (.int x :: .ref a :: st) := by
  intro H locs ls hI hS hl
  subst ea
  have hlt : x.toNatClampNeg < n := Nat.not_le.mp fun q => hin (Or.inr q)
  exact W.lald (v := .long (μ k kd i x.toNatClampNeg).toInt64) h.1 h.2.1 (ch_arrL9 hI hv hk) ((ch_typ h.2.2.2.2.1 (t := 6) (by decide)).1 n (fun j => .long (μ k kd i j).toInt64)) (fun q => by cases q) (by show ¬ (x < 0 ∨ (arrV _ _ _).slots.size ≤ _); rw [arrV_size]; exact hin) (by show (arrV _ _ _).slots[_]? = _; rw [arrV_read _ _ hlt]) rfl rfl hd (kk H locs ls hI hS hl)
theorem ch_I_putl {H H1 : Heap} {k kd i t n j : Nat} {v : Int32} (h : ch_I E S μ H) (hv : S.2.1 k kd i) (hk : ch_kd kd = .inr (t, 2, n)) (he : H1[S.1 k kd i]? = some (vp_cell (E.2.2.1 t) (n, .inr (.inl (fun q => (ch_st μ k kd i j v k kd i q).toInt64))))) (ho : ∀ q : Nat, q ≠ S.1 k kd i → H1[q]? = H[q]?) : ch_I E S (ch_st μ k kd i j v) H1 := by
  refine ch_I_put h hv ?_ ho (fun ci hc => by rw [hk] at hc; cases hc)
  rw [ch_ct_l hk]
  exact he
theorem ca_last (h : ch_H X E own cc nL) {k kd i n a : Nat} {x v : Int32} {y : Int64} (hk : ch_kd kd = .inr (6, 2, n)) (hv : S.2.1 k kd i) (ea : S.1 k kd i = a) (hin : vp_in x n) (hy : v.toInt64 = y) (hd : decode cc pc = .ok (.lastore, 1)) (kk : ch_W X E nL S (ch_st μ k kd i x.toNatClampNeg v) kc ks (pc + 1) L st) : ch_W X E nL S μ kc ks pc L (.long y :: .int x :: .ref a :: st) := by
  intro H locs ls hI hS hl
  subst ea; subst hy
  refine W.last h.1 h.2.1 (ch_arrL9 hI hv hk) ((ch_typ h.2.2.2.2.1 (t := 6) (by decide)).1 n (fun j => .long (μ k kd i j).toInt64)) (fun q => by cases q) (by show ¬ (x < 0 ∨ (arrV _ _ _).slots.size ≤ _); rw [arrV_size]; exact hin) rfl rfl hd fun H1 e z oq => ?_
  refine kk H1 _ ls (ch_I_putl hI hv hk ?_ oq) (hS.put z oq (hI.2.2.1 _ _ _ hv)) hl
  rw [e]
  rw [vp_cell_l, vp_cell_l, arrV_store]
  congr 2
  funext q
  rw [ch_st_same]
  by_cases hq : q = x.toNatClampNeg
  · subst hq
    simp [updV, up]
  · simp [updV, up, hq]
theorem lv_lcmp0 {p : Program} {l : Launch} {e : Env} {R : Room} {s : State} {m : MethodId} {args : Array Value} {below : List Frame} {meth : Method} {c : Code} {H : Heap} {locs : List Loc} {cells slots : Nat} {Q : State → Prop} {ls : Array Slot} {rest : List Value} (hexec : p.tables.exec = Jvm.exec) (hb : c.code = cc) {x : Int64} (hdg : decode cc pc = .ok (.lcmp, 1))
    (k : W p l e R s m args below meth c H locs cells slots Q (F0 m (pc + 1) ls (.int 0 :: rest))) : W p l e R s m args below meth c H locs cells slots Q (F0 m pc ls (.long x :: .long x :: rest)) := by
  intro T hT X
  obtain ⟨t, a, b⟩ := k T hT X
  refine ⟨t, ?_, b⟩
  jvm_step X.here [X.here.top, hexec, hb, hdg]
  exact a
theorem ca_lcmp0 (h : ch_H X E own cc nL) {x y : Int64} (e : x = y) (hd : decode cc pc = .ok (.lcmp, 1)) (kk : ch_W X E nL S μ kc ks (pc + 1) L (.int 0 :: st)) : ch_W X E nL S μ kc ks pc L (.long y :: .long x :: st) := by
  subst e
  exact fun H locs ls hI hS hl => lv_lcmp0 h.1 h.2.1 hd (kk H locs ls hI hS hl)
/-- the script: an array below the base -/
theorem ca_sld (h : ch_H X E own cc nL) {b N : Nat} {xs : Nat → Int32} (hX : va_X b N xs (x_s X) (x_s X).heap) (hbl : b < (x_s X).heap.size) (hbA : b < E.1) {x : Int32} (hin : vp_in x N) (hd : decode cc pc = .ok (.iaload, 1)) (kk : ch_W X E nL S μ kc ks (pc + 1) L (.int (xs x.toNatClampNeg) :: st)) : ch_W X E nL S μ kc ks pc L (.int x :: .ref b :: st) :=
  fun H locs ls hI hS hl => va_sld h.1 h.2.1 hX hbl (Nat.not_le.mpr hbA) hS hin hd (kk H locs ls hI hS hl)
theorem ca_scl (h : ch_H X E own cc nL) {b N : Nat} {xs : Nat → Int32} (hX : va_X b N xs (x_s X) (x_s X).heap) (hbl : b < (x_s X).heap.size) (hbA : b < E.1) (hd : decode cc pc = .ok (.arraylength, 1)) (kk : ch_W X E nL S μ kc ks (pc + 1) L (.int (nI N) :: st)) : ch_W X E nL S μ kc ks pc L (.ref b :: st) :=
  fun H locs ls hI hS hl => va_slen h.1 h.2.1 hX hbl (Nat.not_le.mpr hbA) hS hd (kk H locs ls hI hS hl)
end
/-- the contract of a method with handlers -/
def ch_CW (E : ch_E) (l : Launch) (y : MethodName) (cc : ByteArray) (maxL : Nat) (ret : Option FieldType) (hh : List (Nat × Nat × Nat × Nat)) (d mc ms : Nat) (S : ch_S) (μ : ch_M) (args : List Value) (Post : Option Value → ch_S → ch_M → Prop) : Prop :=
  Met l y (Cond.codeWith y cc maxL ret hh :: ch_GL) (ch_rm d mc ms) (ch_P E S μ args) (ch_Q E Post) mc ms (fun q => E.1 ≤ q)
theorem ch_enterW {E : ch_E} {l : Launch} {y : MethodName} {cc : ByteArray} {nL : Nat} {ret : Option FieldType} {hh : List (Nat × Nat × Nat × Nat)} {d mc ms : Nat} {S : ch_S} {μ : ch_M} {args : List Value} {Post : Option Value → ch_S → ch_M → Prop}
    (hy : plainName y.cls = true) (hn : Nat.ble (lg_sl args).length nL = true)
    (body : ∀ X : ch_X, x_l X = l → ch_H X E y.cls cc nL → ch_G X d mc ms → ch_R X E ret mc ms Post → (x_c X).exceptionTable.toList = tableOf hh → ch_W X E nL S μ 0 0 0 (lv_args 0 args) []) :
    ch_CW E l y cc nL ret hh d mc ms S μ args Post := by
  refine va_MetW (cc := cc) (maxL := nL) (ret := ret) (hh := hh) hy rfl ?_
  intro p e s m a below meth c s₁ B hml hv
  obtain ⟨rfl, hT, hI⟩ := hv
  have hts := atoms_spec (ws := Cond.codeWith y cc nL ret hh :: ch_GL) B.pre
  have hle := lv_entry args (n := nL) (Nat.le_of_ble_eq_true hn)
  rw [lg_entry_eq]
  exact body (p, l, e, ch_rm d mc ms, s, m, args.toArray, below, meth, c, MQ below (ch_Q E Post) args.toArray s mc ms (fun q => E.1 ≤ q)) rfl
    ⟨B.exec, B.bytes, findClass_of_methodNamed B.named, fun w hw => hts w (List.mem_cons_of_mem _ hw), hT, B.notSynchronized, hml⟩
    ⟨Nat.le_refl _, Nat.le_refl _, Nat.le_refl _, Nat.le_refl _⟩ ⟨fun _ _ _ k => k, B.returns⟩ (vx_table (x := y) B (hts _ List.mem_cons_self)) s.heap [] _ hI va_S.rf hle
section
variable {X : ch_X} {E : ch_E} {own : String} {cc : ByteArray} {nL : Nat} {S : ch_S} {μ : ch_M} {kc ks pc : Nat} {L : List (Nat × Value)} {st : List Value}
theorem ca_callSW (h : ch_H X E own cc nL) {D MC MS idx d mc ms n maxL : Nat} {y : MethodName} {bytes : ByteArray} {ret : Option FieldType} {hh : List (Nat × Nat × Nat × Nat)} {stk As : List Value} {Post : Option Value → ch_S → ch_M → Prop} (hG : ch_G X D MC MS) (l1 : Cond.methodLink own idx y ∈ ch_GL) (l2 : Cond.static y ∈ ch_GL) (l4 : Cond.initialized y.cls ∈ ch_GL) (l5 : Cond.codeWith y bytes maxL ret hh ∈ ch_GL) (l6 : y.cls ≠ "java/lang/invoke/MethodHandle" ∧ y.cls ≠ "java/lang/invoke/VarHandle" ∧ (parseMethodDescriptor y.desc).map (fun d => d.parameters.length) = some n)
    (hM : ch_CW E (x_l X) y bytes maxL ret hh d mc ms S μ As Post) (hstk : stk = As.reverse ++ st)
    (hn : As.length = n) (hD : Nat.ble (d + 1) D = true) (hm : Nat.ble maxL 77 = true) (hkc : kc + mc ≤ MC ∧ ks + ms ≤ MS) (hst : Nat.ble (st.map fun v => v.category).sum 8 = true) (hd : decode cc pc = .ok (.invokestatic idx, 3))
    (kk : ∀ (v : Option Value) (S' : ch_S) (μ' : ch_M), Post v S' μ' → ch_W X E nL S' μ' (kc + mc) (ks + ms) (pc + 3) L (v.toList ++ st)) : ch_W X E nL S μ kc ks pc L stk := by
  intro H locs ls hI hS hl
  have hts := h.2.2.2.1
  have h1 := Nat.le_of_ble_eq_true hD
  have h2 := Nat.le_of_ble_eq_true hm
  subst hstk
  refine ch_back (a := As.toArray) hS hl (vx_runSW (Ts := ch_GL) (own := own) (As := As) (rest := st) ⟨h.1, h.2.1, h.2.2.2.2.2.2, h.2.2.1, hts⟩ hM (vx_cwSW (Ts := ch_GL) (ws' := ch_GL) n hts (ch_good (fun w hw => ?_)) rfl rfl rfl l6 ⟨Nat.le_trans h1 hG.1, ?_⟩) ⟨ch_blind, fun U hU hW => ⟨rfl, ch_ready h hI hS U hU hW⟩⟩ rfl hn hl.1 rfl (lv_room (m := x_m X) (pc := pc) (ls := ls) (Nat.le_of_ble_eq_true hst)) hd ⟨Nat.le_trans hkc.1 hG.2.2.1, Nat.le_trans hkc.2 hG.2.2.2⟩) kk
  · unfold va_wsS at hw
    rcases List.mem_append.mp hw with z | z
    · simp only [List.mem_cons, List.not_mem_nil, or_false] at z
      rcases z with rfl | rfl | rfl
      · exact l1
      · exact l2
      · exact l4
    · rcases List.mem_cons.mp z with rfl | z
      · exact l5
      · exact z
  · have h3 := hG.2.1
    show 8 + (maxL + 11) + 96 * d ≤ _
    omega
/-- a call that throws, caught here: the first handlers name other classes -/
theorem ca_catch (h : ch_H X E own cc nL) {D MC MS idx d n maxL hpc ct : Nat} {y : MethodName} {bytes : ByteArray} {ret : Option FieldType} {k kd i ci : Nat} {q : vw_C} {stk As : List Value} {C : String} (hG : ch_G X D MC MS) (hL : ch_LV own idx y bytes maxL ret n) (hM : ch_CX E (x_l X) y bytes maxL ret d 1 6 S μ (.ref (S.1 k kd i) :: As) (ch_FT C S μ)) (hc : ch_cl[ci]? = some q) (hq : q.1 = y.cls) (hk : ch_kd kd = .inl ci) (hv : S.2.1 k kd i) (hstk : stk = As.reverse ++ .ref (S.1 k kd i) :: st)
    (hn : As.length = n) (hD : Nat.ble (d + 1) D = true) (hm : Nat.ble maxL 77 = true) (hkc : kc + 1 ≤ MC ∧ ks + 6 ≤ MS) (hst : Nat.ble (st.map fun v => v.category).sum 8 = true) (hd : decode cc pc = .ok (.invokevirtual idx, 3))
    (pre : List ExceptionTableEntry) (x : ExceptionTableEntry) (suf : List ExceptionTableEntry) (hsplit : (x_c X).exceptionTable.toList = pre ++ x :: suf) (hpass : ∀ z ∈ pre, z.catchType ≠ 0 ∧ ∃ nm : String, Cond.classLink own z.catchType nm ∈ ch_GL ∧ (C, nm) ∈ ch_nca) (hx : covers x pc = true) (hct : x.catchType = ct) (hct0 : ct ≠ 0) (hlink : Cond.classLink own ct C ∈ ch_GL) (hcast : (C, C) ∈ ch_cast) (hh : x.handlerPc = hpc)
    (kk : ∀ q, ch_W X E nL S μ (kc + 1) (ks + 6) hpc L [.ref q]) : ch_W X E nL S μ kc ks pc L stk := by
  refine ca_xV h hG hL hM hc hq hk hv hstk hn hD hm hkc hst hd ?_
  intro C' S' μ' q' ce H1 locs1 ls hp hl hI hS h1 h2 h3
  obtain ⟨rfl, rfl, rfl⟩ := hp
  have hts := h.2.2.2.1
  have hT := h.2.2.2.2.1
  refine vx_catch h.2.2.1 pre x suf hsplit (fun z hz => ?_) hx (by rw [hct]; exact hct0) (by rw [hct]; exact hts _ hlink) ((hT.2.2.2.2.2.2.2.2.1 _ hcast).use rfl) h1 h2 h3 ?_
  · obtain ⟨g1, nm, g2, g3⟩ := hpass z hz
    exact Or.inr ⟨g1, nm, hts _ g2, hT.2.2.2.2.2.2.2.2.2.2.1 _ g3⟩
  · rw [hh]
    exact kk q' H1 locs1 ls hI hS hl
end
theorem ch_C_imp {E : ch_E} {l : Launch} {y : MethodName} {cc : ByteArray} {maxL : Nat} {ret : Option FieldType} {d mc ms : Nat} {S : ch_S} {μ : ch_M} {args : List Value} {P P' : Option Value → ch_S → ch_M → Prop} (h : ch_C E l y cc maxL ret d mc ms S μ args P) (hi : ∀ v S' μ', P v S' μ' → P' v S' μ') : ch_C E l y cc maxL ret d mc ms S μ args P' := by
  intro p e ha hc hk s m a below hf hap hp ht
  obtain ⟨t, o, h1, h2, h3, h4⟩ := h p e ha hc hk s m a below hf hap hp ht
  refine ⟨t, o, h1, h2, h3, ?_, h4.2⟩
  obtain ⟨⟨v, S', μ', g1, g2, g3⟩, g4⟩ := h4.1
  exact ⟨⟨v, S', μ', g1, hi _ _ _ g2, g3⟩, g4⟩
