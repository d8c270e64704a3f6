/-! .. the text by a wide index -/
section
variable {p : Program} {l : Launch} {e : Env} {R : Room} {s : State} {m : MethodId} {args : Array Value} {below : List Frame} {meth : Method} {c : Code} {H : Heap} {locs : List Loc} {cells slots : Nat} {Q : State → Prop}
variable {ls : Array Slot} {rest : List Value}
theorem vy_makeW {cc : ByteArray} {pc : Nat} (hexec : p.tables.exec = Jvm.exec) (hb : c.code = cc) (hl : l.stackTraces = false) {own text : String} {ik is ic sa : Nat} {A : Nat → Prop}
    (hown : s.vm.findClass own = some m.cls)
    (hk : (Cond.classLink own ik vy_ns).before args s = true) (hini : (Cond.initialized vy_ns).before args s = true) (hstr : vk_R own is text sa s) (hat : ∀ w ∈ vx_atS own ic vy_ns vy_up, w ≠ vy_b1 → w ≠ vy_b2 → w.before args s = true) (h13 : ∀ w ∈ Bundle.passSAtoms vy_ns vy_rt 13 vy_six, w.before args s = true)
    (hgood : ∀ w ∈ Cond.classLink own ik vy_ns :: Cond.initialized vy_ns :: vx_atS own ic vy_ns vy_up, vx_ot w = true)
    (hU : vx_Zq Bundle.tN "UNASSIGNED_STACK" Bundle.steD A s s.heap) (hN : vx_Zq Bundle.tN "SUPPRESSED_SENTINEL" Bundle.listD A s s.heap) (hS : va_S A s.heap H locs) (hsize : ls.size = c.maxLocals)
    (d0 : decode cc pc = .ok (.new ik, 3)) (d3 : decode cc (pc + 3) = .ok (.dup, 1)) (d4 : decode cc (pc + 4) = .ok (.ldc_w is, 3)) (d6 : decode cc (pc + 7) = .ok (.invokespecial ic, 3))
    (hRframes : 5 < R.frames) (hRlocals : (rest.map fun v => v.category).sum + 82 ≤ R.locals) (hRcells : cells + 1 ≤ R.cells) (hRslots : slots + 6 ≤ R.slots)
    (kk : ∀ (q : Nat) (ce : Cell) (H1 : Heap), H1[q]? = some ce → ce.vm = .none → s.vm.findClass vy_ns = some ce.cls → H.size ≤ H1.size → (∀ q : Nat, q < H.size → H1[q]? = H[q]?) → va_S A s.heap H1 locs → W p l e R s m args below meth c H1 locs (cells + 1) (slots + 6) Q (F0 m (pc + 10) ls (.ref q :: rest))) :
    W p l e R s m args below meth c H locs cells slots Q (F0 m pc ls rest) := by
  intro T hT X
  subst hT
  have htr : e.platform.stackTraces = false := (show e.platform.stackTraces = l.stackTraces by rw [X.admits.platform]).trans hl
  have Y := vx_rebase X (R' := { frames := R.frames, locals := R.locals, cells := 1, slots := 6 }) (Nat.le_refl _) (Nat.le_refl _) hRcells hRslots
  obtain ⟨s', hA'⟩ : ∃ z, z = (T.setVm s.vm).setFrames (.invoking m args :: below) := ⟨_, rfl⟩
  rw [← hA'] at Y
  have hvm : s'.vm = s.vm := by rw [hA']; rfl
  have hhp : s'.heap = T.heap := by rw [hA']; rfl
  have hW0 : s.WarmedH s'.vm := by rw [hvm]; exact State.WarmedH.refl s
  have hat' : ∀ w ∈ vx_atS own ic vy_ns vy_up, w ≠ vy_b1 → w ≠ vy_b2 → w.before args s' = true := fun w hw h1 h2 => vx_ot_at hW0 hvm.symm (hgood w (List.mem_cons_of_mem _ (List.mem_cons_of_mem _ hw))) (hat w hw h1 h2)
  have h13' : ∀ w ∈ Bundle.passSAtoms vy_ns vy_rt 13 vy_six, w.before args s' = true := fun w hw => vx_ot_at hW0 hvm.symm (vy_ot w hw) (h13 w hw)
  have hk' : (Cond.classLink own ik vy_ns).before args s' = true := vx_ot_at hW0 hvm.symm (hgood _ List.mem_cons_self) hk
  have hini' : (Cond.initialized vy_ns).before args s' = true := vx_ot_at hW0 hvm.symm (hgood _ (List.mem_cons_of_mem _ List.mem_cons_self)) hini
  have hU' : vx_Zq Bundle.tN "UNASSIGNED_STACK" Bundle.steD A s' s'.heap := by rw [hhp]; exact vx_Zq.moved hW0.alike (hU.kept hS.2.1)
  have hN' : vx_Zq Bundle.tN "SUPPRESSED_SENTINEL" Bundle.listD A s' s'.heap := by rw [hhp]; exact vx_Zq.moved hW0.alike (hN.kept hS.2.1)
  have h : ∀ w ∈ Bundle.ownAtoms own ic vy_ns vy_up, w ≠ vy_b1 → w ≠ vy_b2 → w.before args s' = true := fun w hw h1 h2 => by
    by_cases e1 : w = .isRef (.static Bundle.tN "UNASSIGNED_STACK" Bundle.steD)
    · rw [e1]; exact vx_isRefq hU'.1
    by_cases e2 : w = .isRef (.static Bundle.tN "SUPPRESSED_SENTINEL" Bundle.listD)
    · rw [e2]; exact vx_isRefq hN'.1
    by_cases e3 : w = .laysStatic Bundle.tN "UNASSIGNED_STACK" Bundle.steD
    · rw [e3]; exact hU'.2.word
    by_cases e4 : w = .laysStatic Bundle.tN "SUPPRESSED_SENTINEL" Bundle.listD
    · rw [e4]; exact hN'.2.word
    exact hat' w (List.mem_filter.mpr ⟨hw, by unfold vx_no; rw [decide_eq_true e1, decide_eq_true e2, decide_eq_true e3, decide_eq_true e4]; rfl⟩) h1 h2
  have hown' : s'.vm.findClass own = some m.cls := by rw [hvm]; exact hown
  have hins : (Cond.instantiable vy_ns 6).before args s' = true := h _ (by simp [Bundle.ownAtoms]) (by simp [vy_b1]) (by simp [vy_b2])
  obtain ⟨vm₁, cX, kX, hfX, hkX, -, -, X₁, st1⟩ := Y.newCold hexec (own := own) (C := vy_ns) (index := ik) (n := 6) hown' hk' hins hini'
    (g := F0 m pc ls rest) rfl (by rw [hb]; exact d0) (Nat.le_refl _) (Nat.le_refl _)
  generalize hT1 : (T.setVm vm₁).pushCell { cls := cX, slots := kX.instanceTypes.map defaultValue, vm := .none } = T1 at X₁ st1
  have hcat : (Value.ref T.heap.size).category = 1 := rfl
  have hcellA : T1.heap[T.heap.size]? = some (freshCell cX kX) := by rw [← hT1]; exact State.heap_pushCell_size _ _
  have d3' : decode c.code (pc + 3) = .ok (.dup, 1) := by rw [hb]; exact d3
  have d4' : decode c.code (pc + 4) = .ok (.ldc_w is, 3) := by rw [hb]; exact d4
  have hstr' : vk_R own is text sa s' := vk_R.warm hW0 hstr
  obtain ⟨V, ce, L, Z, hL, hlt, hcl9, hvm9, st⟩ := vy_ctorMade X₁ hexec htr (own := own) (ic := ic) hown' h h13' (fun x hx => nomatch hx) hfX hkX hcellA (by rw [hhp]; exact Nat.le_refl _) (msg := .ref sa) rfl
    (g := { method := m, pc := pc + 7, locals := ls, stack := .ref sa :: .ref T.heap.size :: .ref T.heap.size :: rest, locked := none }) rfl hsize (rest := rest) rfl
    (by rw [hb]; exact d6) hRframes (by simp only [List.map_cons, List.sum_cons, hcat]; omega)
  have Z0 := Stand.forget (locs := []) Z (fun y hy => by rw [hL y hy, hhp]; exact Nat.le_refl _)
  obtain ⟨f1, f2⟩ := vx_frame Z0.same
  rw [hhp] at f1 f2
  have hcid : s.vm.findClass vy_ns = some ce.cls := by
    rw [hvm] at hfX
    rw [hcl9]
    exact hfX
  have hh : (V.setCell T.heap.size ce).heap[T.heap.size]? = some ce := heapAt_setCell_self (s := V) ce hlt
  subst hA'
  have X5 := vx_back9 X Y Z0
  have X6 : Stand p l e R s m args below meth c (V.setCell T.heap.size ce) locs (cells + 1) (slots + 6) := { X5 with same := X5.same.mono (by omega) (by omega) }
  obtain ⟨t, a1, b1⟩ := kk T.heap.size ce (V.setCell T.heap.size ce).heap hh hvm9 hcid f1 (fun q hq => f2 q hq (fun z hz => nomatch hz)) ⟨Nat.le_trans hS.1 f1, fun q h1 h2 => (f2 q (Nat.lt_of_lt_of_le h1 hS.1) (fun z hz => nomatch hz)).trans (hS.2.1 q h1 h2), hS.2.2⟩ _ rfl X6
  refine ⟨t, st1 _ ?_, b1⟩
  show Steps p.tables e below (T1.setTop { method := m, pc := pc + 3, locals := ls, stack := .ref T.heap.size :: rest, locked := none }) _
  jvm_step X₁.here [X₁.here.top, hexec, d3', Value.category]
  exact X₁.ldcStringW hexec (own := own) (text := text) (index := is) (a := sa) hown' hstr'.1 hstr'.2
    (g := { method := m, pc := pc + 4, locals := ls, stack := .ref T.heap.size :: .ref T.heap.size :: rest, locked := none }) rfl d4' _ (st _ a1)
end
section
variable {X : ch_X} {E : ch_E} {own : String} {cc : ByteArray} {nL : Nat} {S : ch_S} {μ : ch_M} {kc ks pc : Nat} {L : List (Nat × Value)} {st : List Value}
theorem ca_throwNW (h : ch_H X E own cc nL) {D mc ms ik is ic sa : Nat} {text : String} {PX : String → ch_S → ch_M → Prop} (hG : ch_G X D mc ms) (hR : ch_RX X E mc ms PX)
    (hk : Cond.classLink own ik vy_ns ∈ ch_GL) (hini : Cond.initialized vy_ns ∈ ch_GL) (hw : (own, is, text, sa) ∈ ch_str)
    (hat : ∀ w ∈ (vx_atS own ic vy_ns vy_up).filter goodWord, w ≠ vy_b1 → w ≠ vy_b2 → w ∈ ch_GL) (hbad : ∀ w ∈ (vx_atS own ic vy_ns vy_up).filter (fun w => !goodWord w), w ∈ ch_cast.map (fun q => Cond.castable q.1 q.2) ++ ch_decl.map Cond.declares)
    (h13 : ∀ w ∈ (Bundle.passSAtoms vy_ns vy_rt 13 vy_six).filter goodWord, w ∈ ch_GL) (hgood : ∀ w ∈ Cond.classLink own ik vy_ns :: Cond.initialized vy_ns :: vx_atS own ic vy_ns vy_up, vx_ot w = true)
    (d0 : decode cc pc = .ok (.new ik, 3)) (d3 : decode cc (pc + 3) = .ok (.dup, 1)) (d4 : decode cc (pc + 4) = .ok (.ldc_w is, 3)) (d6 : decode cc (pc + 7) = .ok (.invokespecial ic, 3)) (d9 : decode cc (pc + 10) = .ok (.athrow, 1))
    (hD : Nat.ble 6 D = true) (hst : Nat.ble (st.map fun v => v.category).sum 8 = true) (hkc : kc + 1 ≤ mc ∧ ks + 6 ≤ ms) (hp : PX vy_ns S μ) : ch_W X E nL S μ kc ks pc L st := by
  intro H locs ls hI hS hl
  have hts := h.2.2.2.1
  have hT := h.2.2.2.2.1
  have hD' := Nat.le_of_ble_eq_true hD
  have hst' := Nat.le_of_ble_eq_true hst
  have bad : ∀ w, goodWord w = false → w ∈ ch_cast.map (fun q => Cond.castable q.1 q.2) ++ ch_decl.map Cond.declares → w.before (x_a X) (x_s X) = true := by
    intro w _ hw
    rcases List.mem_append.mp hw with z | z
    · obtain ⟨q, hq, rfl⟩ := List.mem_map.mp z
      exact (hT.2.2.2.2.2.2.2.2.1 q hq).use rfl
    · obtain ⟨q, hq, rfl⟩ := List.mem_map.mp z
      exact (hT.2.2.2.2.2.2.2.2.2.1 q hq).use rfl
  have hat1 : ∀ w ∈ vx_atS own ic vy_ns vy_up, w ≠ vy_b1 → w ≠ vy_b2 → w.before (x_a X) (x_s X) = true := by
    intro w hw e1 e2
    cases g : goodWord w
    · exact bad w g (hbad w (List.mem_filter.mpr ⟨hw, by rw [g]; rfl⟩))
    · exact hts w (hat w (List.mem_filter.mpr ⟨hw, g⟩) e1 e2)
  have h131 : ∀ w ∈ Bundle.passSAtoms vy_ns vy_rt 13 vy_six, w.before (x_a X) (x_s X) = true := by
    intro w hw
    cases g : goodWord w
    · refine bad w g ?_
      have := vy_13 w hw g
      exact this
    · exact hts w (h13 w (List.mem_filter.mpr ⟨hw, g⟩))
  refine vy_makeW h.1 h.2.1 hR.2.2 (A := fun q => E.1 ≤ q) h.2.2.1 (hts _ hk) (hts _ hini) (hT.2.2.1 _ hw) hat1 h131 hgood hT.2.2.2.2.2.1 hT.2.2.2.2.2.2.1 hS (hl.1.trans h.2.2.2.2.2.2.symm) d0 d3 d4 d6 (by have := hG.1; omega) (by have := hG.2.1; omega) (Nat.le_trans hkc.1 hG.2.2.1) (Nat.le_trans hkc.2 hG.2.2.2) ?_
  intro q ce H1 g1 g2 g3 g4 g5 g6
  refine vx_athrow h.1 h.2.1 d9 ?_
  rw [hR.1]
  exact vx_out (fun x hx => (hR.2.1 x hx).elim) h.2.2.2.2.2.1 g1 g2 g3 (fun t ht _ => ⟨⟨S, μ, hp, by rw [ht]; exact ch_I_grow hI g5⟩, by rw [← ht] at g6; exact g6.F rfl⟩) g6.2.2 hkc.1 hkc.2
end
theorem gl_at {ws : List Cond} (ps : List Nat) (h : ws = ps.filterMap (fun i => ch_GL[i]?)) : ∀ w ∈ ws, w ∈ ch_GL := by
  intro w hw
  rw [h] at hw
  obtain ⟨i, -, hi⟩ := List.mem_filterMap.mp hw
  exact List.mem_of_getElem? hi
theorem gl_but {ws : List Cond} (ps : List Nat) (h : ws.filter (fun w => decide (w ≠ vy_b1) && decide (w ≠ vy_b2)) = ps.filterMap (fun i => ch_GL[i]?)) : ∀ w ∈ ws, w ≠ vy_b1 → w ≠ vy_b2 → w ∈ ch_GL :=
  fun w hw h1 h2 => gl_at ps h w (List.mem_filter.mpr ⟨hw, by rw [decide_eq_true h1, decide_eq_true h2]; rfl⟩)
