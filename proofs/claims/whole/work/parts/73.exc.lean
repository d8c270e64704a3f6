/-! AN EXCEPTION whose String constructor hands on by index 13 (java/util/NoSuchElementException; the kit's rows know index 7 alone): vy_ctorMade follows vx_ctorMadeS of kit/laws -/
def vy_ns : String := "java/util/NoSuchElementException"
def vy_rt : String := "java/lang/RuntimeException"
def vy_up : List String := ["java/lang/RuntimeException", "java/lang/Exception"]
def vy_six : ByteArray := ⟨#[0x2a, 0x2b, 0xb7, 0x00, 0x0d, 0xb1]⟩
def vy_b1 : Cond := .code (Bundle.initS vy_ns) Bundle.six 2 none
def vy_b2 : Cond := .methodLink vy_ns 7 (Bundle.initS vy_rt)
theorem vy_n1 : ∀ x ∈ Bundle.throwableAtoms, x ≠ vy_b1 ∧ x ≠ vy_b2 := by decide +kernel
theorem vy_n2 : ∀ x ∈ Bundle.throwableSAtoms, x ≠ vy_b1 ∧ x ≠ vy_b2 := by decide +kernel
theorem vy_n3 : ∀ x ∈ Bundle.chainSAtoms vy_rt ["java/lang/Exception"], x ≠ vy_b1 ∧ x ≠ vy_b2 := by decide +kernel
theorem vy_in {own : String} {ic : Nat} : ∀ x ∈ Bundle.chainSAtoms vy_rt ["java/lang/Exception"], x ∈ Bundle.ownAtoms own ic vy_ns vy_up := by
  intro x hx
  unfold Bundle.ownAtoms
  refine List.mem_append_left _ (List.mem_append_right _ ?_)
  exact List.mem_append_right _ hx

theorem vy_chainS {args : Array Value} {s : State} {pl : Platform} (hpl : pl.magicAccessors = ({} : Platform).magicAccessors) {top : MethodId} (htop : s.methodNamed? (Bundle.initS Bundle.tN) = some top)
    (h : ∀ c ∈ Bundle.chainSAtoms vy_rt ["java/lang/Exception"], c.before args s = true) (h13 : ∀ c ∈ Bundle.passSAtoms vy_ns vy_rt 13 vy_six, c.before args s = true) :
    ∃ (P1 : PassC) (Ps : List PassC), Ps.length = 2 ∧ P1.LinksS pl s ∧ (∀ P, P ∈ Ps → P.LinksS pl s) ∧ s.methodNamed? (Bundle.initS vy_ns) = some P1.m ∧
      P1.sup = firstOf top (Ps.map (·.toPassT)) ∧ PassesOn top (Ps.map (·.toPassT)) := by
  obtain ⟨P, L, hm, hs⟩ := PassC.ofS_atoms (args := args) (s := s) hpl (X := vy_ns) (Y := vy_rt) (by decide +kernel) (by decide +kernel) (index := 13) (bytes := vy_six) (by decide +kernel) (by decide +kernel) (by decide +kernel) (by decide +kernel) h13
  obtain ⟨P', Ps, hlen, L', hL, hm', hsup, hpass⟩ := Bundle.chainS (args := args) hpl htop ["java/lang/Exception"] vy_rt (by decide +kernel) (by decide +kernel) h
  refine ⟨P, P' :: Ps, by simp [hlen], L, fun Q hQ => ?_, hm, Option.some.inj (hs.symm.trans hm'), hsup, hpass⟩
  rcases List.mem_cons.mp hQ with rfl | hQ
  · exact L'
  · exact hL Q hQ
section
variable {p : Program} {l : Launch} {e : Env} {R : Room} {s : State} {m₀ : MethodId} {args : Array Value} {below : List Frame} {meth : Method} {c : Code} {W : State} {locs : List Loc} {cells slots : Nat}
set_option maxHeartbeats 1000000 in
theorem vy_ctorMade (X : Stand p l e R s m₀ args below meth c W locs cells slots) (hexec : p.tables.exec = Jvm.exec) (htr : e.platform.stackTraces = false) {own : String} {ic : Nat}
    (hown : s.vm.findClass own = some m₀.cls) (h : ∀ a ∈ Bundle.ownAtoms own ic vy_ns vy_up, a ≠ vy_b1 → a ≠ vy_b2 → a.before args s = true) (h13 : ∀ a ∈ Bundle.passSAtoms vy_ns vy_rt 13 vy_six, a.before args s = true)
    (hlocs : ∀ x ∈ locs, ∀ cell, s.heap[x.base]? = some cell → cell.vm.isStatics = false)
    {a : Addr} {cX : ClassId} {kX : Class} (hfoundX : s.vm.findClass vy_ns = some cX) (hkX : s.vm.classes[cX]? = some kX) (hcell : W.heap[a]? = some (freshCell cX kX)) (hnew : s.heap.size ≤ a)
    {msg : Value} (hmsg : msg.isRef = true)
    {g : JFrame} (hg : g.method = m₀) (hsize : g.locals.size = c.maxLocals) {rest : List Value} (hstack : g.stack = msg :: .ref a :: .ref a :: rest)
    (hd6 : decode c.code g.pc = .ok (.invokespecial ic, 3))
    (hRframes : 2 + 3 < R.frames) (hRlocals : 2 * g.monitorRoom + ((Value.ref a :: rest).map fun v => v.category).sum + (13 * (2 + 1) + 42) ≤ R.locals) :
    ∃ (V : State) (ce : Cell) (L : List Loc), Stand p l e R s m₀ args below meth c (V.setCell a ce) (locs ++ L) cells slots ∧ (∀ y ∈ L, y.base = a) ∧ a < V.heap.size ∧ ce.cls = cX ∧ ce.vm = .none ∧
      ∀ target, Steps p.tables e below ((V.setCell a ce).setTop { g with stack := .ref a :: rest, pc := g.pc + 3 }) target → Steps p.tables e below (W.setTop g) target := by
  have howns : e.platform.frameOwnsMonitors = true := by rw [X.admits.platform]
  have hfin : e.platform.finalization = false := by rw [X.admits.platform]
  have hpl : e.platform.magicAccessors = ({} : Platform).magicAccessors := by rw [X.admits.platform]
  have a' : ∀ x, x ∈ Bundle.ownAtoms own ic vy_ns vy_up → x ≠ vy_b1 → x ≠ vy_b2 → x.holds args s none s [] = true := fun x hx h1 h2 => h x hx h1 h2
  obtain ⟨T, Z0, L, -, Y⟩ := ThrowableC.of_atoms (args := args) howns hfin hpl (fun x hx => h x (by simp [Bundle.ownAtoms, hx]) (vy_n1 x hx).1 (vy_n1 x hx).2)
  obtain ⟨Z, M, LZ, LM, hnZ⟩ := Init0T.ofS_atoms (args := args) hpl L Y (fun x hx => h x (by simp [Bundle.ownAtoms, hx]) (vy_n2 x hx).1 (vy_n2 x hx).2)
  obtain ⟨P1, Ps, hlen, L1, hL, hP1m, hlink1, hlink⟩ := vy_chainS (args := args) hpl hnZ (fun x hx => h x (vy_in x hx) (vy_n3 x hx).1 (vy_n3 x hx).2) h13
  have hfound : s.vm.findClass vy_ns = some P1.m.cls := findClass_of_methodNamed hP1m
  cases Option.some.inj (hfoundX.symm.trans hfound)
  obtain ⟨c1, kX', hc1, hk, hord, -, -, hn6⟩ := Cond.instantiable_spec (a' (.instantiable vy_ns 6) (by simp [Bundle.ownAtoms]) (by simp [vy_b1]) (by simp [vy_b2, Bundle.initS, vy_ns, vy_rt]))
  cases Option.some.inj (hc1.symm.trans hfound)
  cases Option.some.inj (hkX.symm.trans hk)
  have hsel0 : selectMethod e.platform s.vm P1.m.cls T.fill0 = .method T.fill0 := by
    obtain ⟨c2, r2, m2, q1, q2, q3, q4, -⟩ := Cond.selects_spec (a' (.selects vy_ns Bundle.tFill0 Bundle.tFill0) (by simp [Bundle.ownAtoms]) (by simp [vy_b1]) (by simp [vy_b2, Bundle.initS, vy_ns, vy_rt]))
    cases Option.some.inj (q1.symm.trans hfound)
    cases Option.some.inj (q2.symm.trans (State.methodFound?_of_named Y.fill0 (by decide)))
    cases Option.some.inj (q3.symm.trans Y.fill0)
    rw [Launch.admits_selectMethod X.admits]; exact q4
  have hselF : selectMethod e.platform s.vm P1.m.cls T.fill = .method T.fill := by
    obtain ⟨c2, r2, m2, q1, q2, q3, q4, -⟩ := Cond.selects_spec (a' (.selects vy_ns Bundle.tFill Bundle.tFill) (by simp [Bundle.ownAtoms]) (by simp [vy_b1]) (by simp [vy_b2, Bundle.initS, vy_ns, vy_rt]))
    cases Option.some.inj (q1.symm.trans hfound)
    cases Option.some.inj (q2.symm.trans (State.methodFound?_of_named Y.fill (by decide)))
    cases Option.some.inj (q3.symm.trans Y.fill)
    rw [Launch.admits_selectMethod X.admits]; exact q4
  obtain ⟨cellS0, hcS0, hiss⟩ := Y.statics
  obtain ⟨u0, hu0⟩ := Cond.staticRefV Y.unassigned L.unassignedStatic L.statics hcS0 hiss (a' (.isRef (.static Bundle.tN "UNASSIGNED_STACK" Bundle.steD)) (by simp [Bundle.ownAtoms]) (by simp [vy_b1]) (by simp [vy_b2, Bundle.initS, vy_ns, vy_rt]))
  obtain ⟨sen, hsen⟩ := Cond.staticRefV Y.sentinel L.sentinelStatic L.statics hcS0 hiss (a' (.isRef (.static Bundle.tN "SUPPRESSED_SENTINEL" Bundle.listD)) (by simp [Bundle.ownAtoms]) (by simp [vy_b1]) (by simp [vy_b2, Bundle.initS, vy_ns, vy_rt]))
  obtain ⟨ci198, i198, fB, hk198, hg198, ha198, hsB, -, hnB, htB, hffB⟩ := Cond.ownField (t := .object "java/lang/Object") Y.found L.cls (by decide +kernel) (a' (.fieldLink Bundle.tN 198 Bundle.tN "backtrace" "Ljava/lang/Object;") (by simp [Bundle.ownAtoms]) (by simp [vy_b1]) (by simp [vy_b2, Bundle.initS, vy_ns, vy_rt])) (a' (.lays Bundle.tN Bundle.tN "backtrace" "Ljava/lang/Object;") (by simp [Bundle.ownAtoms]) (by simp [vy_b1]) (by simp [vy_b2, Bundle.initS, vy_ns, vy_rt])) e.platform hpl
  obtain ⟨cellS, hcS', heS, -, hkeep⟩ := X.same.2.2.2.2.2 T.aS cellS0 hcS0
  have hcellS : W.heap[T.aS]? = some cellS := hcS'
  have hout' : ∀ i, (⟨T.aS, i⟩ : Loc) ∉ locs := fun i hmem => by
    have := hlocs _ hmem cellS0 hcS0
    rw [hiss] at this; cases this
  have hknownS : cellS.vm ≠ .unknown := by
    rw [heS]; intro hu
    rw [show cellS0.vm = .unknown from hu] at hiss
    cases hiss
  have hneS : T.aS ≠ a := Nat.ne_of_lt (Nat.lt_of_lt_of_le (Array.getElem?_eq_some_iff.mp hcS0).1 hnew)
  obtain ⟨iM, hffM⟩ := Y.msg
  obtain ⟨tyC, dC, hdC, hdnC⟩ := Cond.laysAt hfound hk Y.cause (a' (.lays vy_ns Bundle.tN "cause" "Ljava/lang/Throwable;") (by simp [Bundle.ownAtoms]) (by simp [vy_b1]) (by simp [vy_b2, Bundle.initS, vy_ns, vy_rt]))
  obtain ⟨tyS, dS, hdS, hdnS⟩ := Cond.laysAt hfound hk Y.stack (a' (.lays vy_ns Bundle.tN "stackTrace" Bundle.steD) (by simp [Bundle.ownAtoms]) (by simp [vy_b1]) (by simp [vy_b2, Bundle.initS, vy_ns, vy_rt]))
  obtain ⟨tyP, dP, hdP, hdnP⟩ := Cond.laysAt hfound hk Y.supp (a' (.lays vy_ns Bundle.tN "suppressedExceptions" Bundle.listD) (by simp [Bundle.ownAtoms]) (by simp [vy_b1]) (by simp [vy_b2, Bundle.initS, vy_ns, vy_rt]))
  obtain ⟨tyM, dM, hdM, hdnM⟩ := Cond.laysAt hfound hk hffM (a' (.lays vy_ns Bundle.tN "detailMessage" "Ljava/lang/String;") (by simp [Bundle.ownAtoms]) (by simp [vy_b1]) (by simp [vy_b2, Bundle.initS, vy_ns, vy_rt]))
  obtain ⟨tyB, dB, hdB, hdnB⟩ := Cond.laysAt hfound hk hffB (a' (.lays vy_ns Bundle.tN "backtrace" "Ljava/lang/Object;") (by simp [Bundle.ownAtoms]) (by simp [vy_b1]) (by simp [vy_b2, Bundle.initS, vy_ns, vy_rt]))
  have bC := Cond.laysApart hdB hdC hdnB hdnC (by rw [hnB, Y.causeName]; decide)
  have bS := Cond.laysApart hdB hdS hdnB hdnS (by rw [hnB, Y.stackName]; decide)
  have bP := Cond.laysApart hdB hdP hdnB hdnP (by rw [hnB, Y.suppName]; decide)
  have hskip : SkipFacts T e.platform s (fun u => u) u0 ((preparedCellV T.toThrowableT (freshCell P1.m.cls kX) a u0 sen).withEntry W.cur) :=
    ⟨{ ci198 := ci198, i198 := i198, fBack := fB }, ⟨hk198, hg198, ha198, hsB⟩, by
      have := fresh_default (c := P1.m.cls) tyB
      rw [htB] at this
      simpa [preparedCellV, Cell.setSlot, Cell.withEntry, Array.getElem?_setIfInBounds, bC, bS, bP, bC.symm, bS.symm, bP.symm, defaultValue] using this, fun _ _ => rfl⟩
  obtain ⟨tm, methC, cdC, kC, vm₁, hnC, -, -, -, -, -, -, -, hW₁, st1⟩ := Steps.initColdS (tb := p.tables) (e := e) (below := below) (s := s) (U := W) X.here hexec X.warmed hpl hown (t := Bundle.initS vy_ns) rfl rfl (by decide)
    (a' (.methodLink own ic (Bundle.initS vy_ns)) (by simp [Bundle.ownAtoms]) (by simp [vy_b1]) (by simp [vy_b2, Bundle.initS, vy_ns, vy_rt])) (h13 (.instanceMethod (Bundle.initS vy_ns)) (by simp [Bundle.passSAtoms])) (bytes := vy_six) (maxL := 2) (h13 (.code (Bundle.initS vy_ns) vy_six 2 none) (by simp [Bundle.passSAtoms]))
    (f := g) hg (a := a) (msg := msg) (rest := .ref a :: rest) hstack hd6
  cases Option.some.inj (hnC.symm.trans hP1m)
  have X₁ := X.noted hW₁
  obtain ⟨vm₂, X₂, st2⟩ := X₁.ctorMessageOffV hexec (g := { g with stack := .ref a :: rest }) hg hsize T L Z LZ M LM (P1 :: Ps)
    (fun P hP => by rcases List.mem_cons.mp hP with rfl | hP; exact L1; exact hL P hP) ⟨hlink1, hlink⟩ (u0 := u0) (sen := sen) (self := a) hmsg (cell := freshCell P1.m.cls kX) (cellS := cellS)
    hcell (fun _ => by simp) (by simp) rfl rfl hsel0 hselF hcellS hneS hknownS (by rw [hkeep _ (hout' _)]; exact hu0) (by rw [hkeep _ (hout' _)]; exact hsen)
    (Takes.of_laid hk hord tyC (by rw [Y.causeType]; rfl)) (Takes.of_laid hk hord tyS (by rw [Y.stackType]; exact fits_refV_array _ u0)) (Takes.of_laid hk hord tyP (by rw [Y.suppType]; exact fits_refV_object _ sen))
    (Takes.of_laid hk hord tyM (by rw [Y.msgType]; exact fits_refV_object _ ⟨msg, hmsg⟩)) Y.objLocals hskip htr [] hd6
    (by simp only [List.length_cons, hlen]; omega) (by simp only [List.length_cons, hlen]; exact hRlocals)
  have hlt : a < ((W.setVm vm₁).setVm vm₂).heap.size := (Array.getElem?_eq_some_iff.mp hcell).1
  refine ⟨(W.setVm vm₁).setVm vm₂, _, _, X₂, fun y hy => ?_, hlt, rfl, rfl, fun target hwalk => st1 _ (fun acts => ?_)⟩
  · simp only [List.mem_cons, List.not_mem_nil, or_false] at hy
    rcases hy with rfl | rfl | rfl | rfl | rfl <;> rfl
  · rw [doInvoke_state]
    exact st2 _ hwalk
end
section
variable {p : Program} {l : Launch} {e : Env} {R : Room} {s : State} {m : MethodId} {args : Array Value} {below : List Frame} {meth : Method} {c : Code} {H : Heap} {locs : List Loc} {cells slots : Nat}
theorem vx_back9 {T S : State} {R' : Room} {k n : Nat} (X : Stand p l e R s m args below meth c T locs cells slots) (Y : Stand p l e R' ((T.setVm s.vm).setFrames (.invoking m args :: below)) m args below meth c T [] 0 0) (Z : Stand p l e R' ((T.setVm s.vm).setFrames (.invoking m args :: below)) m args below meth c S [] k n) :
    Stand p l e R s m args below meth c S locs (cells + k) (slots + n) := by
  have hW0 : s.WarmedH ((T.setVm s.vm).setFrames (.invoking m args :: below)).vm := State.WarmedH.refl s
  refine { admits := X.admits, cas := X.cas, clock := X.clock, frames := X.frames, room := X.room, hears := X.hears, method := X.method, code := X.code, here := Z.here, tail := Z.tail, warmed := State.WarmedH.trans hW0 Z.warmed, limits := Z.limits.trans (Y.limits.symm.trans X.limits), bytes := Z.bytes.trans (Y.bytes.symm.trans X.bytes), same := ?_ }
  obtain ⟨e1, e2⟩ := Z.same
  rw [State.setFrames_setFrames] at e1
  have h2 : (T.setVm s.vm).sameButNew (S.setVm s.vm) [] k n := ⟨e1, e2⟩
  have h3 := X.same.trans h2
  rw [List.append_nil] at h3
  exact h3
variable {Q : State → Prop} {ls : Array Slot} {rest : List Value}
theorem vx_athrow {cc : ByteArray} {pc : Nat} (hexec : p.tables.exec = Jvm.exec) (hb : c.code = cc) {q : Addr} (hdg : decode cc pc = .ok (.athrow, 1)) (k : vx_W p l e R s m args below meth c H locs cells slots Q (F0 m pc ls rest) q) : W p l e R s m args below meth c H locs cells slots Q (F0 m pc ls (.ref q :: rest)) := by
  intro T hT X
  obtain ⟨t, st, hq⟩ := k T hT X
  refine ⟨t, ?_, hq⟩
  have hdg' : decode c.code pc = .ok (.athrow, 1) := by rw [hb]; exact hdg
  jvm_step X.here [X.here.top, hexec, hdg', athrow.wp_sem]
  exact st
end
theorem vy_ot : ∀ w ∈ Bundle.passSAtoms vy_ns vy_rt 13 vy_six, vx_ot w = true := by decide +kernel
section
variable {p : Program} {l : Launch} {e : Env} {R : Room} {s : State} {m : MethodId} {args : Array Value} {below : List Frame} {meth : Method} {c : Code} {H : Heap} {locs : List Loc} {cells slots : Nat} {Q : State → Prop}
variable {ls : Array Slot} {rest : List Value}
theorem vy_make {cc : ByteArray} {pc : Nat} (hexec : p.tables.exec = Jvm.exec) (hb : c.code = cc) (hl : l.stackTraces = false) {own text : String} {ik is ic sa : Nat} {A : Nat → Prop}
    (hown : s.vm.findClass own = some m.cls)
    (hk : (Cond.classLink own ik vy_ns).before args s = true) (hini : (Cond.initialized vy_ns).before args s = true) (hstr : vk_R own is text sa s) (hat : ∀ w ∈ vx_atS own ic vy_ns vy_up, w ≠ vy_b1 → w ≠ vy_b2 → w.before args s = true) (h13 : ∀ w ∈ Bundle.passSAtoms vy_ns vy_rt 13 vy_six, w.before args s = true)
    (hgood : ∀ w ∈ Cond.classLink own ik vy_ns :: Cond.initialized vy_ns :: vx_atS own ic vy_ns vy_up, vx_ot w = true)
    (hU : vx_Zq Bundle.tN "UNASSIGNED_STACK" Bundle.steD A s s.heap) (hN : vx_Zq Bundle.tN "SUPPRESSED_SENTINEL" Bundle.listD A s s.heap) (hS : va_S A s.heap H locs) (hsize : ls.size = c.maxLocals)
    (d0 : decode cc pc = .ok (.new ik, 3)) (d3 : decode cc (pc + 3) = .ok (.dup, 1)) (d4 : decode cc (pc + 4) = .ok (.ldc is, 2)) (d6 : decode cc (pc + 6) = .ok (.invokespecial ic, 3))
    (hRframes : 5 < R.frames) (hRlocals : (rest.map fun v => v.category).sum + 82 ≤ R.locals) (hRcells : cells + 1 ≤ R.cells) (hRslots : slots + 6 ≤ R.slots)
    (kk : ∀ (q : Nat) (ce : Cell) (H1 : Heap), H1[q]? = some ce → ce.vm = .none → s.vm.findClass vy_ns = some ce.cls → H.size ≤ H1.size → (∀ q : Nat, q < H.size → H1[q]? = H[q]?) → va_S A s.heap H1 locs → W p l e R s m args below meth c H1 locs (cells + 1) (slots + 6) Q (F0 m (pc + 9) ls (.ref q :: rest))) :
    W p l e R s m args below meth c H locs cells slots Q (F0 m pc ls rest) := by
  intro T hT X
  subst hT
  have htr : e.platform.stackTraces = false := (show e.platform.stackTraces = l.stackTraces by rw [X.admits.platform]).trans hl
  have Y := vx_rebase X (R' := { frames := R.frames, locals := R.locals, cells := 1, slots := 6 }) (Nat.le_refl _) (Nat.le_refl _) hRcells hRslots
  obtain ⟨s', hA'⟩ : ∃ z, z = (T.setVm s.vm).setFrames (.invoking m args :: below) := ⟨_, rfl⟩
  rw [← hA'] at Y
  have hvm : s'.vm = s.vm := by rw [hA']; rfl
  have hhp : s'.heap = T.heap := by rw [hA']; rfl
  have hW0 : s.WarmedH s'.vm := by rw [hvm]; exact State.WarmedH.refl s
  have hat' : ∀ w ∈ vx_atS own ic vy_ns vy_up, w ≠ vy_b1 → w ≠ vy_b2 → w.before args s' = true := fun w hw h1 h2 => vx_ot_at hW0 hvm.symm (hgood w (List.mem_cons_of_mem _ (List.mem_cons_of_mem _ hw))) (hat w hw h1 h2)
  have h13' : ∀ w ∈ Bundle.passSAtoms vy_ns vy_rt 13 vy_six, w.before args s' = true := fun w hw => vx_ot_at hW0 hvm.symm (vy_ot w hw) (h13 w hw)
  have hk' : (Cond.classLink own ik vy_ns).before args s' = true := vx_ot_at hW0 hvm.symm (hgood _ List.mem_cons_self) hk
  have hini' : (Cond.initialized vy_ns).before args s' = true := vx_ot_at hW0 hvm.symm (hgood _ (List.mem_cons_of_mem _ List.mem_cons_self)) hini
  have hU' : vx_Zq Bundle.tN "UNASSIGNED_STACK" Bundle.steD A s' s'.heap := by rw [hhp]; exact vx_Zq.moved hW0.alike (hU.kept hS.2.1)
  have hN' : vx_Zq Bundle.tN "SUPPRESSED_SENTINEL" Bundle.listD A s' s'.heap := by rw [hhp]; exact vx_Zq.moved hW0.alike (hN.kept hS.2.1)
  have h : ∀ w ∈ Bundle.ownAtoms own ic vy_ns vy_up, w ≠ vy_b1 → w ≠ vy_b2 → w.before args s' = true := fun w hw h1 h2 => by
    by_cases e1 : w = .isRef (.static Bundle.tN "UNASSIGNED_STACK" Bundle.steD)
    · rw [e1]; exact vx_isRefq hU'.1
    by_cases e2 : w = .isRef (.static Bundle.tN "SUPPRESSED_SENTINEL" Bundle.listD)
    · rw [e2]; exact vx_isRefq hN'.1
    by_cases e3 : w = .laysStatic Bundle.tN "UNASSIGNED_STACK" Bundle.steD
    · rw [e3]; exact hU'.2.word
    by_cases e4 : w = .laysStatic Bundle.tN "SUPPRESSED_SENTINEL" Bundle.listD
    · rw [e4]; exact hN'.2.word
    exact hat' w (List.mem_filter.mpr ⟨hw, by unfold vx_no; rw [decide_eq_true e1, decide_eq_true e2, decide_eq_true e3, decide_eq_true e4]; rfl⟩) h1 h2
  have hown' : s'.vm.findClass own = some m.cls := by rw [hvm]; exact hown
  have hins : (Cond.instantiable vy_ns 6).before args s' = true := h _ (by simp [Bundle.ownAtoms]) (by simp [vy_b1]) (by simp [vy_b2])
  obtain ⟨vm₁, cX, kX, hfX, hkX, -, -, X₁, st1⟩ := Y.newCold hexec (own := own) (C := vy_ns) (index := ik) (n := 6) hown' hk' hins hini'
    (g := F0 m pc ls rest) rfl (by rw [hb]; exact d0) (Nat.le_refl _) (Nat.le_refl _)
  generalize hT1 : (T.setVm vm₁).pushCell { cls := cX, slots := kX.instanceTypes.map defaultValue, vm := .none } = T1 at X₁ st1
  have hcat : (Value.ref T.heap.size).category = 1 := rfl
  have hcellA : T1.heap[T.heap.size]? = some (freshCell cX kX) := by rw [← hT1]; exact State.heap_pushCell_size _ _
  have d3' : decode c.code (pc + 3) = .ok (.dup, 1) := by rw [hb]; exact d3
  have d4' : decode c.code (pc + 4) = .ok (.ldc is, 2) := by rw [hb]; exact d4
  have hstr' : vk_R own is text sa s' := vk_R.warm hW0 hstr
  obtain ⟨V, ce, L, Z, hL, hlt, hcl9, hvm9, st⟩ := vy_ctorMade X₁ hexec htr (own := own) (ic := ic) hown' h h13' (fun x hx => nomatch hx) hfX hkX hcellA (by rw [hhp]; exact Nat.le_refl _) (msg := .ref sa) rfl
    (g := { method := m, pc := pc + 6, locals := ls, stack := .ref sa :: .ref T.heap.size :: .ref T.heap.size :: rest, locked := none }) rfl hsize (rest := rest) rfl
    (by rw [hb]; exact d6) hRframes (by simp only [List.map_cons, List.sum_cons, hcat]; omega)
  have Z0 := Stand.forget (locs := []) Z (fun y hy => by rw [hL y hy, hhp]; exact Nat.le_refl _)
  obtain ⟨f1, f2⟩ := vx_frame Z0.same
  rw [hhp] at f1 f2
  have hcid : s.vm.findClass vy_ns = some ce.cls := by
    rw [hvm] at hfX
    rw [hcl9]
    exact hfX
  have hh : (V.setCell T.heap.size ce).heap[T.heap.size]? = some ce := heapAt_setCell_self (s := V) ce hlt
  subst hA'
  have X5 := vx_back9 X Y Z0
  have X6 : Stand p l e R s m args below meth c (V.setCell T.heap.size ce) locs (cells + 1) (slots + 6) := { X5 with same := X5.same.mono (by omega) (by omega) }
  obtain ⟨t, a1, b1⟩ := kk T.heap.size ce (V.setCell T.heap.size ce).heap hh hvm9 hcid f1 (fun q hq => f2 q hq (fun z hz => nomatch hz)) ⟨Nat.le_trans hS.1 f1, fun q h1 h2 => (f2 q (Nat.lt_of_lt_of_le h1 hS.1) (fun z hz => nomatch hz)).trans (hS.2.1 q h1 h2), hS.2.2⟩ _ rfl X6
  refine ⟨t, st1 _ ?_, b1⟩
  show Steps p.tables e below (T1.setTop { method := m, pc := pc + 3, locals := ls, stack := .ref T.heap.size :: rest, locked := none }) _
  jvm_step X₁.here [X₁.here.top, hexec, d3', Value.category]
  exact X₁.ldcString hexec (own := own) (text := text) (index := is) (a := sa) hown' hstr'.1 hstr'.2
    (g := { method := m, pc := pc + 4, locals := ls, stack := .ref T.heap.size :: .ref T.heap.size :: rest, locked := none }) rfl d4' _ (st _ a1)
end

theorem vy_13 : ∀ w ∈ Bundle.passSAtoms vy_ns vy_rt 13 vy_six, goodWord w = false → w ∈ ch_cast.map (fun q => Cond.castable q.1 q.2) ++ ch_decl.map Cond.declares := by decide +kernel
/-! METHODS THAT THROW, over the memory -/
def ch_X9 (E : ch_E) (PX : String → ch_S → ch_M → Prop) : String → State → State → Prop := fun C st t => (∃ (S : ch_S) (μ : ch_M), PX C S μ ∧ ch_I E S μ t.heap) ∧ va_F (fun q => E.1 ≤ q) st t
/-- the contract of a method that throws -/
def ch_CX (E : ch_E) (l : Launch) (y : MethodName) (cc : ByteArray) (maxL : Nat) (ret : Option FieldType) (d mc ms : Nat) (S : ch_S) (μ : ch_M) (args : List Value) (PX : String → ch_S → ch_M → Prop) : Prop :=
  vx_Met l y (Cond.code y cc maxL ret :: ch_GL) (ch_rm d mc ms) (ch_P E S μ args) (fun _ _ _ _ => False) (ch_X9 E PX) mc ms (fun q => E.1 ≤ q)
/-- the end of a body that throws -/
def ch_RX (X : ch_X) (E : ch_E) (mc ms : Nat) (PX : String → ch_S → ch_M → Prop) : Prop :=
  x_Q X = vx_MQ (x_b X) (fun _ _ _ _ => False) (ch_X9 E PX) (x_a X) (x_s X) mc ms (fun q => E.1 ≤ q) ∧ (∀ x ∈ (x_c X).exceptionTable.toList, False) ∧ (x_l X).stackTraces = false
theorem ch_enterX {E : ch_E} {l : Launch} {y : MethodName} {cc : ByteArray} {nL : Nat} {ret : Option FieldType} {d mc ms : Nat} {S : ch_S} {μ : ch_M} {args : List Value} {PX : String → ch_S → ch_M → Prop}
    (hl : l.stackTraces = false) (hy : plainName y.cls = true) (hn : Nat.ble (lg_sl args).length nL = true)
    (body : ∀ X : ch_X, x_l X = l → ch_H X E y.cls cc nL → ch_G X d mc ms → ch_RX X E mc ms PX → ch_W X E nL S μ 0 0 0 (lv_args 0 args) []) :
    ch_CX E l y cc nL ret d mc ms S μ args PX := by
  refine vx_ofW (cc := cc) (maxL := nL) (ret := ret) hy rfl ?_
  intro p e s m a below meth c s₁ B hml ht hv
  obtain ⟨rfl, hT, hI⟩ := hv
  have hts := atoms_spec (ws := Cond.code y cc nL ret :: ch_GL) B.pre
  have hle := lv_entry args (n := nL) (Nat.le_of_ble_eq_true hn)
  rw [lg_entry_eq]
  exact body (p, l, e, ch_rm d mc ms, s, m, args.toArray, below, meth, c, vx_MQ below (fun _ _ _ _ => False) (ch_X9 E PX) args.toArray s mc ms (fun q => E.1 ≤ q)) rfl
    ⟨B.exec, B.bytes, findClass_of_methodNamed B.named, fun w hw => hts w (List.mem_cons_of_mem _ hw), hT, B.notSynchronized, hml⟩
    ⟨Nat.le_refl _, Nat.le_refl _, Nat.le_refl _, Nat.le_refl _⟩ ⟨rfl, ht, hl⟩ s.heap [] _ hI va_S.rf hle
theorem ch_I_grow {E : ch_E} {S : ch_S} {μ : ch_M} {H H1 : Heap} (h : ch_I E S μ H) (hq : ∀ q : Nat, q < H.size → H1[q]? = H[q]?) : ch_I E S μ H1 :=
  ⟨fun k kd i hv => (h.1 k kd i hv).kept (hq _ (h.1 k kd i hv).lt), h.2⟩
section
variable {X : ch_X} {E : ch_E} {own : String} {cc : ByteArray} {nL : Nat} {S : ch_S} {μ : ch_M} {kc ks pc : Nat} {L : List (Nat × Value)} {st : List Value}
theorem ca_throwN (h : ch_H X E own cc nL) {D mc ms ik is ic sa : Nat} {text : String} {PX : String → ch_S → ch_M → Prop} (hG : ch_G X D mc ms) (hR : ch_RX X E mc ms PX)
    (hk : Cond.classLink own ik vy_ns ∈ ch_GL) (hini : Cond.initialized vy_ns ∈ ch_GL) (hw : (own, is, text, sa) ∈ ch_str)
    (hat : ∀ w ∈ (vx_atS own ic vy_ns vy_up).filter goodWord, w ≠ vy_b1 → w ≠ vy_b2 → w ∈ ch_GL) (hbad : ∀ w ∈ (vx_atS own ic vy_ns vy_up).filter (fun w => !goodWord w), w ∈ ch_cast.map (fun q => Cond.castable q.1 q.2) ++ ch_decl.map Cond.declares)
    (h13 : ∀ w ∈ (Bundle.passSAtoms vy_ns vy_rt 13 vy_six).filter goodWord, w ∈ ch_GL) (hgood : ∀ w ∈ Cond.classLink own ik vy_ns :: Cond.initialized vy_ns :: vx_atS own ic vy_ns vy_up, vx_ot w = true)
    (d0 : decode cc pc = .ok (.new ik, 3)) (d3 : decode cc (pc + 3) = .ok (.dup, 1)) (d4 : decode cc (pc + 4) = .ok (.ldc is, 2)) (d6 : decode cc (pc + 6) = .ok (.invokespecial ic, 3)) (d9 : decode cc (pc + 9) = .ok (.athrow, 1))
    (hD : Nat.ble 6 D = true) (hst : Nat.ble (st.map fun v => v.category).sum 8 = true) (hkc : kc + 1 ≤ mc ∧ ks + 6 ≤ ms) (hp : PX vy_ns S μ) : ch_W X E nL S μ kc ks pc L st := by
  intro H locs ls hI hS hl
  have hts := h.2.2.2.1
  have hT := h.2.2.2.2.1
  have hD' := Nat.le_of_ble_eq_true hD
  have hst' := Nat.le_of_ble_eq_true hst
  have bad : ∀ w, goodWord w = false → w ∈ ch_cast.map (fun q => Cond.castable q.1 q.2) ++ ch_decl.map Cond.declares → w.before (x_a X) (x_s X) = true := by
    intro w _ hw
    rcases List.mem_append.mp hw with z | z
    · obtain ⟨q, hq, rfl⟩ := List.mem_map.mp z
      exact (hT.2.2.2.2.2.2.2.2.1 q hq).use rfl
    · obtain ⟨q, hq, rfl⟩ := List.mem_map.mp z
      exact (hT.2.2.2.2.2.2.2.2.2.1 q hq).use rfl
  have hat1 : ∀ w ∈ vx_atS own ic vy_ns vy_up, w ≠ vy_b1 → w ≠ vy_b2 → w.before (x_a X) (x_s X) = true := by
    intro w hw e1 e2
    cases g : goodWord w
    · exact bad w g (hbad w (List.mem_filter.mpr ⟨hw, by rw [g]; rfl⟩))
    · exact hts w (hat w (List.mem_filter.mpr ⟨hw, g⟩) e1 e2)
  have h131 : ∀ w ∈ Bundle.passSAtoms vy_ns vy_rt 13 vy_six, w.before (x_a X) (x_s X) = true := by
    intro w hw
    cases g : goodWord w
    · refine bad w g ?_
      have := vy_13 w hw g
      exact this
    · exact hts w (h13 w (List.mem_filter.mpr ⟨hw, g⟩))
  refine vy_make h.1 h.2.1 hR.2.2 (A := fun q => E.1 ≤ q) h.2.2.1 (hts _ hk) (hts _ hini) (hT.2.2.1 _ hw) hat1 h131 hgood hT.2.2.2.2.2.1 hT.2.2.2.2.2.2.1 hS (hl.1.trans h.2.2.2.2.2.2.symm) d0 d3 d4 d6 (by have := hG.1; omega) (by have := hG.2.1; omega) (Nat.le_trans hkc.1 hG.2.2.1) (Nat.le_trans hkc.2 hG.2.2.2) ?_
  intro q ce H1 g1 g2 g3 g4 g5 g6
  refine vx_athrow h.1 h.2.1 d9 ?_
  rw [hR.1]
  exact vx_out (fun x hx => (hR.2.1 x hx).elim) h.2.2.2.2.2.1 g1 g2 g3 (fun t ht _ => ⟨⟨S, μ, hp, by rw [ht]; exact ch_I_grow hI g5⟩, by rw [← ht] at g6; exact g6.F rfl⟩) g6.2.2 hkc.1 hkc.2
end

section
variable {X : ch_X} {E : ch_E} {own : String} {cc : ByteArray} {nL : Nat} {S : ch_S} {μ : ch_M} {kc ks pc : Nat} {L : List (Nat × Value)} {st : List Value}
theorem ca_throwA (h : ch_H X E own cc nL) {D mc ms ik is ic sa : Nat} {cls text : String} {names : List String} {PX : String → ch_S → ch_M → Prop} (hG : ch_G X D mc ms) (hR : ch_RX X E mc ms PX)
    (hcls : Bundle.fit cls = true) (hnames : ∀ n ∈ names, Bundle.fit n = true) (hk : Cond.classLink own ik cls ∈ ch_GL) (hini : Cond.initialized cls ∈ ch_GL) (hw : (own, is, text, sa) ∈ ch_str)
    (hat : ∀ w ∈ (vx_atS own ic cls names).filter goodWord, w ∈ ch_GL) (hbad : ∀ w ∈ (vx_atS own ic cls names).filter (fun w => !goodWord w), w ∈ ch_cast.map (fun q => Cond.castable q.1 q.2) ++ ch_decl.map Cond.declares)
    (hgood : ∀ w ∈ Cond.classLink own ik cls :: Cond.initialized cls :: vx_atS own ic cls names, vx_ot w = true)
    (d0 : decode cc pc = .ok (.new ik, 3)) (d3 : decode cc (pc + 3) = .ok (.dup, 1)) (d4 : decode cc (pc + 4) = .ok (.ldc_w is, 3)) (d6 : decode cc (pc + 7) = .ok (.invokespecial ic, 3)) (d9 : decode cc (pc + 10) = .ok (.athrow, 1))
    (hD : Nat.ble 6 D = true) (hn : names.length ≤ 2) (hst : Nat.ble (st.map fun v => v.category).sum 8 = true) (hkc : kc + 1 ≤ mc ∧ ks + 6 ≤ ms) (hp : PX cls S μ) : ch_W X E nL S μ kc ks pc L st := by
  intro H locs ls hI hS hl
  have hts := h.2.2.2.1
  have hT := h.2.2.2.2.1
  have hD' := Nat.le_of_ble_eq_true hD
  have hst' := Nat.le_of_ble_eq_true hst
  have hat1 : ∀ w ∈ vx_atS own ic cls names, w.before (x_a X) (x_s X) = true := by
    intro w hw
    cases g : goodWord w
    · have hw2 := hbad w (List.mem_filter.mpr ⟨hw, by rw [g]; rfl⟩)
      rcases List.mem_append.mp hw2 with z | z
      · obtain ⟨q, hq, rfl⟩ := List.mem_map.mp z
        exact (hT.2.2.2.2.2.2.2.2.1 q hq).use rfl
      · obtain ⟨q, hq, rfl⟩ := List.mem_map.mp z
        exact (hT.2.2.2.2.2.2.2.2.2.1 q hq).use rfl
    · exact hts w (hat w (List.mem_filter.mpr ⟨hw, g⟩))
  rw [hR.1]
  exact vx_throwSW h.1 h.2.1 hR.2.2 (A := fun q => E.1 ≤ q) h.2.2.1 hcls hnames (hts _ hk) (hts _ hini) (hT.2.2.1 _ hw) hat1 hgood hT.2.2.2.2.2.1 hT.2.2.2.2.2.2.1 hS (hl.1.trans h.2.2.2.2.2.2.symm) d0 d3 d4 d6 d9 (fun x hx => (hR.2.1 x hx).elim) (by have := hG.1; omega) (by have := hG.2.1; omega) (Nat.le_trans hkc.1 hG.2.2.1) (Nat.le_trans hkc.2 hG.2.2.2) h.2.2.2.2.2.1
    (fun t hA hz hq => ⟨⟨S, μ, hp, ch_I_grow hI hq⟩, ⟨Nat.le_trans hS.1 hz, fun q h1 h2 => (hq q (Nat.lt_of_lt_of_le h1 hS.1)).trans (hS.2.1 q h1 h2)⟩⟩) hS.2.2 hkc.1 hkc.2
theorem ch_backX {stk rest : List Value} {mc ms : Nat} {PX : String → ch_S → ch_M → Prop} {H : Heap} {locs : List Loc} {ls : Array Slot} (hS : va_S (fun q => E.1 ≤ q) (x_s X).heap H locs)
    (hr : vx_Run (x_p X) (x_l X) (x_e X) (x_R X) (x_s X) (x_m X) (x_a X) (x_b X) (x_h X) (x_c X) H locs kc ks mc ms (F0 (x_m X) pc ls stk) rest (fun _ _ _ => False) (ch_X9 E PX) (fun q => E.1 ≤ q))
    (kx : ∀ (C : String) (S' : ch_S) (μ' : ch_M) (q : Nat) (ce : Cell) (H1 : Heap) (locs1 : List Loc), PX C S' μ' → ch_I E S' μ' H1 → va_S (fun q => E.1 ≤ q) (x_s X).heap H1 locs1 → H1[q]? = some ce → ce.vm = .none → (x_s X).vm.findClass C = some ce.cls →
      vx_W (x_p X) (x_l X) (x_e X) (x_R X) (x_s X) (x_m X) (x_a X) (x_b X) (x_h X) (x_c X) H1 locs1 (kc + mc) (ks + ms) (x_Q X) (F0 (x_m X) pc ls rest) q) :
    W (x_p X) (x_l X) (x_e X) (x_R X) (x_s X) (x_m X) (x_a X) (x_b X) (x_h X) (x_c X) H locs kc ks (x_Q X) (F0 (x_m X) pc ls stk) := by
  intro T hT Y
  rcases hr T hT Y with ⟨v, st₀, t, T', L', h0, Y', hL, e1, e2, hq, go⟩ | ⟨q, st₀, t, T', L', C, ce, h0, Y', hL, e1, e2, ⟨⟨S', μ', hp, hI'⟩, hF⟩, hce, hcv, hcl, go⟩
  · exact hq.elim
  · obtain ⟨-, -, k3⟩ := vx_keep h0 e1 hS (A1 := fun q => E.1 ≤ q) (fun _ _ z => z) (fun _ z => z) hL hF
    obtain ⟨t2, a1, b1⟩ := kx C S' μ' q ce T'.heap (locs ++ L') hp (by rw [e1]; exact hI') k3 (by rw [e1]; exact hce) hcv hcl T' rfl Y'
    exact ⟨t2, go.trans a1, b1⟩
theorem ca_xV (h : ch_H X E own cc nL) {D MC MS idx d mc ms n maxL : Nat} {y : MethodName} {bytes : ByteArray} {ret : Option FieldType} {k kd i ci : Nat} {q : vw_C} {stk As : List Value} {PX : String → ch_S → ch_M → Prop} (hG : ch_G X D MC MS) (hL : ch_LV own idx y bytes maxL ret n) (hM : ch_CX E (x_l X) y bytes maxL ret d mc ms S μ (.ref (S.1 k kd i) :: As) PX) (hc : ch_cl[ci]? = some q) (hq : q.1 = y.cls) (hk : ch_kd kd = .inl ci) (hv : S.2.1 k kd i) (hstk : stk = As.reverse ++ .ref (S.1 k kd i) :: st)
    (hn : As.length = n) (hD : Nat.ble (d + 1) D = true) (hm : Nat.ble maxL 77 = true) (hkc : kc + mc ≤ MC ∧ ks + ms ≤ MS) (hst : Nat.ble (st.map fun v => v.category).sum 8 = true) (hd : decode cc pc = .ok (.invokevirtual idx, 3))
    (kx : ∀ (C : String) (S' : ch_S) (μ' : ch_M) (q : Nat) (ce : Cell) (H1 : Heap) (locs1 : List Loc) (ls : Array Slot), PX C S' μ' → lv_has ls nL L → ch_I E S' μ' H1 → va_S (fun q => E.1 ≤ q) (x_s X).heap H1 locs1 → H1[q]? = some ce → ce.vm = .none → (x_s X).vm.findClass C = some ce.cls →
      vx_W (x_p X) (x_l X) (x_e X) (x_R X) (x_s X) (x_m X) (x_a X) (x_b X) (x_h X) (x_c X) H1 locs1 (kc + mc) (ks + ms) (x_Q X) (F0 (x_m X) pc ls st) q) : ch_W X E nL S μ kc ks pc L stk := by
  intro H locs ls hI hS hl
  obtain ⟨l1, l2, l3, l4, l5, l6⟩ := hL
  have hts := h.2.2.2.1
  subst hstk
  refine ch_backX hS (vx_runV (Ts := ch_GL) (own := own) (C := y.cls) (b := S.1 k kd i) (As := As) (rest := st) ⟨h.1, h.2.1, h.2.2.2.2.2.2, h.2.2.1, hts⟩ hM ⟨ch_callB h hG hD hm l1 l4 l5 l6, hts _ l2, hts _ l3⟩ ⟨ch_blind, ?_, fun U hU hW => ⟨rfl, ch_ready h hI hS U hU hW⟩⟩ rfl hn hl.1 rfl (lv_room (m := x_m X) (pc := pc) (ls := ls) (Nat.le_of_ble_eq_true hst)) hd ⟨Nat.le_trans hkc.1 hG.2.2.1, Nat.le_trans hkc.2 hG.2.2.2⟩) (fun C S' μ' q ce H1 locs1 g1 g2 g3 g4 g5 g6 => kx C S' μ' q ce H1 locs1 ls g1 hl g2 g3 g4 g5 g6)
  obtain ⟨cell, g1, g2, g3, -⟩ := ch_field hI hv hk hc
  exact ⟨cell, g1, by rw [g3]; rfl, by rw [g2, ← hq]; exact (h.2.2.2.2.1.1.1 ci q hc).2.1⟩
theorem ca_xS (h : ch_H X E own cc nL) {D MC MS idx d mc ms n maxL : Nat} {y : MethodName} {bytes : ByteArray} {ret : Option FieldType} {stk As : List Value} {PX : String → ch_S → ch_M → Prop} (hG : ch_G X D MC MS) (hL : ch_LS own idx y bytes maxL ret n) (hM : ch_CX E (x_l X) y bytes maxL ret d mc ms S μ As PX) (hstk : stk = As.reverse ++ st)
    (hn : As.length = n) (hD : Nat.ble (d + 1) D = true) (hm : Nat.ble maxL 77 = true) (hkc : kc + mc ≤ MC ∧ ks + ms ≤ MS) (hst : Nat.ble (st.map fun v => v.category).sum 8 = true) (hd : decode cc pc = .ok (.invokestatic idx, 3))
    (kx : ∀ (C : String) (S' : ch_S) (μ' : ch_M) (q : Nat) (ce : Cell) (H1 : Heap) (locs1 : List Loc) (ls : Array Slot), PX C S' μ' → lv_has ls nL L → ch_I E S' μ' H1 → va_S (fun q => E.1 ≤ q) (x_s X).heap H1 locs1 → H1[q]? = some ce → ce.vm = .none → (x_s X).vm.findClass C = some ce.cls →
      vx_W (x_p X) (x_l X) (x_e X) (x_R X) (x_s X) (x_m X) (x_a X) (x_b X) (x_h X) (x_c X) H1 locs1 (kc + mc) (ks + ms) (x_Q X) (F0 (x_m X) pc ls st) q) : ch_W X E nL S μ kc ks pc L stk := by
  intro H locs ls hI hS hl
  obtain ⟨l1, l2, l4, l5, l6⟩ := hL
  have hts := h.2.2.2.1
  subst hstk
  exact ch_backX hS (vx_runS (Ts := ch_GL) (own := own) (As := As) (rest := st) ⟨h.1, h.2.1, h.2.2.2.2.2.2, h.2.2.1, hts⟩ hM ⟨ch_callB h hG hD hm l1 l4 l5 l6, hts _ l2⟩ ⟨ch_blind, fun U hU hW => ⟨rfl, ch_ready h hI hS U hU hW⟩⟩ rfl hn hl.1 rfl (lv_room (m := x_m X) (pc := pc) (ls := ls) (Nat.le_of_ble_eq_true hst)) hd ⟨Nat.le_trans hkc.1 hG.2.2.1, Nat.le_trans hkc.2 hG.2.2.2⟩) (fun C S' μ' q ce H1 locs1 g1 g2 g3 g4 g5 g6 => kx C S' μ' q ce H1 locs1 ls g1 hl g2 g3 g4 g5 g6)
/-- what was thrown leaves this method -/
theorem ch_out {D MC MS : Nat} {PX : String → ch_S → ch_M → Prop} (h : ch_H X E own cc nL) (hG : ch_G X D MC MS) (hR : ch_RX X E MC MS PX) {C : String} {S' : ch_S} {μ' : ch_M} {q : Nat} {ce : Cell} {H1 : Heap} {locs1 : List Loc} {ls : Array Slot} (hp : PX C S' μ') (hI : ch_I E S' μ' H1) (hS : va_S (fun q => E.1 ≤ q) (x_s X).heap H1 locs1) (h1 : H1[q]? = some ce) (h2 : ce.vm = .none) (h3 : (x_s X).vm.findClass C = some ce.cls) (hkc : kc ≤ MC ∧ ks ≤ MS) :
    vx_W (x_p X) (x_l X) (x_e X) (x_R X) (x_s X) (x_m X) (x_a X) (x_b X) (x_h X) (x_c X) H1 locs1 kc ks (x_Q X) (F0 (x_m X) pc ls st) q := by
  rw [hR.1]
  exact vx_out (fun x hx => (hR.2.1 x hx).elim) h.2.2.2.2.2.1 h1 h2 h3 (fun t ht _ => ⟨⟨S', μ', hp, by rw [ht]; exact hI⟩, hS.F ht⟩) hS.2.2 hkc.1 hkc.2
def ch_FT (C : String) (S : ch_S) (μ : ch_M) : String → ch_S → ch_M → Prop := fun C' S' μ' => C' = C ∧ S' = S ∧ μ' = μ
theorem ca_oV (h : ch_H X E own cc nL) {D MC MS idx d mc ms n maxL : Nat} {y : MethodName} {bytes : ByteArray} {ret : Option FieldType} {k kd i ci : Nat} {q : vw_C} {stk As : List Value} {PX : String → ch_S → ch_M → Prop} (hG : ch_G X D MC MS) (hR : ch_RX X E MC MS PX) (hL : ch_LV own idx y bytes maxL ret n) (hM : ch_CX E (x_l X) y bytes maxL ret d mc ms S μ (.ref (S.1 k kd i) :: As) PX) (hc : ch_cl[ci]? = some q) (hq : q.1 = y.cls) (hk : ch_kd kd = .inl ci) (hv : S.2.1 k kd i) (hstk : stk = As.reverse ++ .ref (S.1 k kd i) :: st)
    (hn : As.length = n) (hD : Nat.ble (d + 1) D = true) (hm : Nat.ble maxL 77 = true) (hkc : kc + mc ≤ MC ∧ ks + ms ≤ MS) (hst : Nat.ble (st.map fun v => v.category).sum 8 = true) (hd : decode cc pc = .ok (.invokevirtual idx, 3)) : ch_W X E nL S μ kc ks pc L stk :=
  ca_xV h hG hL hM hc hq hk hv hstk hn hD hm hkc hst hd (fun _ _ _ _ _ _ _ _ g1 _ g2 g3 g4 g5 g6 => ch_out h hG hR g1 g2 g3 g4 g5 g6 hkc)
theorem ca_oS (h : ch_H X E own cc nL) {D MC MS idx d mc ms n maxL : Nat} {y : MethodName} {bytes : ByteArray} {ret : Option FieldType} {stk As : List Value} {PX : String → ch_S → ch_M → Prop} (hG : ch_G X D MC MS) (hR : ch_RX X E MC MS PX) (hL : ch_LS own idx y bytes maxL ret n) (hM : ch_CX E (x_l X) y bytes maxL ret d mc ms S μ As PX) (hstk : stk = As.reverse ++ st)
    (hn : As.length = n) (hD : Nat.ble (d + 1) D = true) (hm : Nat.ble maxL 77 = true) (hkc : kc + mc ≤ MC ∧ ks + ms ≤ MS) (hst : Nat.ble (st.map fun v => v.category).sum 8 = true) (hd : decode cc pc = .ok (.invokestatic idx, 3)) : ch_W X E nL S μ kc ks pc L stk :=
  ca_xS h hG hL hM hstk hn hD hm hkc hst hd (fun _ _ _ _ _ _ _ _ g1 _ g2 g3 g4 g5 g6 => ch_out h hG hR g1 g2 g3 g4 g5 g6 hkc)
end
