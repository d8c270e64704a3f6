/-! THE JUDGEMENT OVER THE MEMORY, and a row an instruction -/
abbrev x_p (X : ch_X) : Program := X.1
abbrev x_l (X : ch_X) : Launch := X.2.1
abbrev x_e (X : ch_X) : Env := X.2.2.1
abbrev x_R (X : ch_X) : Room := X.2.2.2.1
abbrev x_s (X : ch_X) : State := X.2.2.2.2.1
abbrev x_m (X : ch_X) : MethodId := X.2.2.2.2.2.1
abbrev x_a (X : ch_X) : Array Value := X.2.2.2.2.2.2.1
abbrev x_b (X : ch_X) : List Frame := X.2.2.2.2.2.2.2.1
abbrev x_h (X : ch_X) : Method := X.2.2.2.2.2.2.2.2.1
abbrev x_c (X : ch_X) : Code := X.2.2.2.2.2.2.2.2.2.1
abbrev x_Q (X : ch_X) : State → Prop := X.2.2.2.2.2.2.2.2.2.2
def ch_W (X : ch_X) (E : ch_E) (nL : Nat) (S : ch_S) (μ : ch_M) (kc ks pc : Nat) (L : List (Nat × Value)) (st : List Value) : Prop :=
  ∀ (H : Heap) (locs : List Loc) (ls : Array Slot), ch_I E S μ H → va_S (fun q => E.1 ≤ q) (x_s X).heap H locs → lv_has ls nL L →
    W (x_p X) (x_l X) (x_e X) (x_R X) (x_s X) (x_m X) (x_a X) (x_b X) (x_h X) (x_c X) H locs kc ks (x_Q X) (F0 (x_m X) pc ls st)
/-- a method's own facts -/
def ch_H (X : ch_X) (E : ch_E) (own : String) (cc : ByteArray) (nL : Nat) : Prop :=
  (x_p X).tables.exec = Jvm.exec ∧ (x_c X).code = cc ∧ (x_s X).vm.findClass own = some (x_m X).cls ∧ (∀ w ∈ ch_GL, w.before (x_a X) (x_s X) = true) ∧ ch_T E (x_s X) ∧ (x_h X).locks = false ∧ (x_c X).maxLocals = nL
def ch_lk (L : List (Nat × Value)) (i : Nat) : Option Value := match L with
  | [] => none
  | q :: L' => if q.1 = i then some q.2 else ch_lk L' i
theorem ch_lk_mem : ∀ {L : List (Nat × Value)} {i : Nat} {v : Value}, ch_lk L i = some v → (i, v) ∈ L
  | [], _, _, h => by cases h
  | q :: L', i, v, h => by
    unfold ch_lk at h
    by_cases e : q.1 = i
    · rw [if_pos e] at h
      cases h
      subst e
      exact List.mem_cons_self
    · rw [if_neg e] at h
      exact List.mem_cons_of_mem _ (ch_lk_mem h)
theorem ch_lk_at {ls : Array Slot} {nL : Nat} {L : List (Nat × Value)} {i : Nat} {v : Value} (hl : lv_has ls nL L) (h : ch_lk L i = some v) : ls[i]? = some (.val v) := hl.2.2 _ (ch_lk_mem h)
theorem ch_lk_place : ∀ {L : List (Nat × Value)} {i : Nat} {v : Value}, ch_lk L i = some v → ∃ k : Nat, L[k]? = some (i, v) := fun h => List.getElem?_of_mem (ch_lk_mem h)
/-- the locals behind a store of one slot -/
def ch_ls (L : List (Nat × Value)) (i : Nat) (v : Value) : List (Nat × Value) := (i, v) :: L.filter (fun q => !(q.1 == i) && !(q.1 + 1 == i && q.2.category == 2))
/-- the base facts of a state -/
def ch_ok (E : ch_E) (U : State) : Prop := ch_T E U ∧ True
section Rows
variable {X : ch_X} {E : ch_E} {own : String} {cc : ByteArray} {nL : Nat} {S : ch_S} {μ : ch_M} {kc ks pc : Nat} {L : List (Nat × Value)} {st : List Value}
theorem ca_iconst (h : ch_H X E own cc nL) {n : Int} {v : Int32} (hd : decode cc pc = .ok (.iconst n, 1)) (hv : Int32.ofInt n = v) (k : ch_W X E nL S μ kc ks (pc + 1) L (.int v :: st)) : ch_W X E nL S μ kc ks pc L st :=
  fun H locs ls hI hS hl => lv_iconst h.1 h.2.1 hd hv (k H locs ls hI hS hl)
theorem ca_bipush (h : ch_H X E own cc nL) {n : Int} {v : Int32} (hd : decode cc pc = .ok (.bipush n, 2)) (hv : (Int8.ofInt n).toInt32 = v) (k : ch_W X E nL S μ kc ks (pc + 2) L (.int v :: st)) : ch_W X E nL S μ kc ks pc L st :=
  fun H locs ls hI hS hl => lv_bipush h.1 h.2.1 hd hv (k H locs ls hI hS hl)
theorem ca_sipush (h : ch_H X E own cc nL) {n : Int} {v : Int32} (hd : decode cc pc = .ok (.sipush n, 3)) (hv : (Int16.ofInt n).toInt32 = v) (k : ch_W X E nL S μ kc ks (pc + 3) L (.int v :: st)) : ch_W X E nL S μ kc ks pc L st :=
  fun H locs ls hI hS hl => lv_sipush h.1 h.2.1 hd hv (k H locs ls hI hS hl)
theorem ca_lconst (h : ch_H X E own cc nL) {n : Fin 2} {v : Int64} (hd : decode cc pc = .ok (.lconst n, 1)) (hv : Int64.ofNat (n : Nat) = v) (k : ch_W X E nL S μ kc ks (pc + 1) L (.long v :: st)) : ch_W X E nL S μ kc ks pc L st :=
  fun H locs ls hI hS hl => lv_lconst h.1 h.2.1 hd hv (k H locs ls hI hS hl)
theorem ca_ldc (h : ch_H X E own cc nL) {i : Nat} {v : Int32} (hw : Cond.constant own i v ∈ ch_GL) (hd : decode cc pc = .ok (.ldc i, 2)) (k : ch_W X E nL S μ kc ks (pc + 2) L (.int v :: st)) : ch_W X E nL S μ kc ks pc L st :=
  fun H locs ls hI hS hl => lv_ldc h.1 h.2.1 h.2.2.1 (h.2.2.2.1 _ hw) hd (k H locs ls hI hS hl)
theorem ca_ldcs (h : ch_H X E own cc nL) {i a : Nat} {tx : String} (hw : (own, i, tx, a) ∈ ch_str) (hd : decode cc pc = .ok (.ldc i, 2)) (k : ch_W X E nL S μ kc ks (pc + 2) L (.ref (E.2.2.2.1 a) :: st)) : ch_W X E nL S μ kc ks pc L st :=
  fun H locs ls hI hS hl => va_ldcS h.1 h.2.1 h.2.2.1 (h.2.2.2.2.1.2.2.1 _ hw) hd (k H locs ls hI hS hl)
theorem ca_null (h : ch_H X E own cc nL) (hd : decode cc pc = .ok (.aconst_null, 1)) (k : ch_W X E nL S μ kc ks (pc + 1) L (.null :: st)) : ch_W X E nL S μ kc ks pc L st :=
  fun H locs ls hI hS hl => lv_null h.1 h.2.1 hd (k H locs ls hI hS hl)
theorem ca_iload_n (h : ch_H X E own cc nL) {q : Fin 4} {x : Int32} (hd : decode cc pc = .ok (.iload_n q, 1)) (hk : ch_lk L (q : Nat) = some (.int x)) (k : ch_W X E nL S μ kc ks (pc + 1) L (.int x :: st)) : ch_W X E nL S μ kc ks pc L st :=
  fun H locs ls hI hS hl => lv_iload_n h.1 h.2.1 hd rfl (ch_lk_at hl hk) (k H locs ls hI hS hl)
theorem ca_iload (h : ch_H X E own cc nL) {i : Nat} {x : Int32} (hd : decode cc pc = .ok (.iload i, 2)) (hk : ch_lk L i = some (.int x)) (k : ch_W X E nL S μ kc ks (pc + 2) L (.int x :: st)) : ch_W X E nL S μ kc ks pc L st :=
  fun H locs ls hI hS hl => lv_iload h.1 h.2.1 hd (ch_lk_at hl hk) (k H locs ls hI hS hl)
theorem ca_aload_n (h : ch_H X E own cc nL) {q : Fin 4} {r : Option Nat} (hd : decode cc pc = .ok (.aload_n q, 1)) (hk : ch_lk L (q : Nat) = some (va_rf r)) (k : ch_W X E nL S μ kc ks (pc + 1) L (va_rf r :: st)) : ch_W X E nL S μ kc ks pc L st := by
  intro H locs ls hI hS hl
  cases r with
  | none => exact lv_aload_nN h.1 h.2.1 hd rfl (ch_lk_at hl hk) (k H locs ls hI hS hl)
  | some a => exact lv_aload_n h.1 h.2.1 hd rfl (ch_lk_at hl hk) (k H locs ls hI hS hl)
theorem ca_aload_nr (h : ch_H X E own cc nL) {q : Fin 4} {a : Nat} (hd : decode cc pc = .ok (.aload_n q, 1)) (hk : ch_lk L (q : Nat) = some (.ref a)) (k : ch_W X E nL S μ kc ks (pc + 1) L (.ref a :: st)) : ch_W X E nL S μ kc ks pc L st :=
  fun H locs ls hI hS hl => lv_aload_n h.1 h.2.1 hd rfl (ch_lk_at hl hk) (k H locs ls hI hS hl)
theorem ca_aload_nn (h : ch_H X E own cc nL) {q : Fin 4} (hd : decode cc pc = .ok (.aload_n q, 1)) (hk : ch_lk L (q : Nat) = some .null) (k : ch_W X E nL S μ kc ks (pc + 1) L (.null :: st)) : ch_W X E nL S μ kc ks pc L st :=
  fun H locs ls hI hS hl => lv_aload_nN h.1 h.2.1 hd rfl (ch_lk_at hl hk) (k H locs ls hI hS hl)
theorem ca_aload (h : ch_H X E own cc nL) {i : Nat} {a : Nat} (hd : decode cc pc = .ok (.aload i, 2)) (hk : ch_lk L i = some (.ref a)) (k : ch_W X E nL S μ kc ks (pc + 2) L (.ref a :: st)) : ch_W X E nL S μ kc ks pc L st :=
  fun H locs ls hI hS hl => lv_aload h.1 h.2.1 hd (ch_lk_at hl hk) (k H locs ls hI hS hl)
theorem ca_istore_n (h : ch_H X E own cc nL) {q : Fin 4} {x : Int32} (hd : decode cc pc = .ok (.istore_n q, 1)) (hn : Nat.ble ((q : Nat) + 1) nL = true) (k : ch_W X E nL S μ kc ks (pc + 1) (ch_ls L (q : Nat) (.int x)) st) : ch_W X E nL S μ kc ks pc L (.int x :: st) :=
  fun H locs ls hI hS hl => lv_istore_n h.1 h.2.1 hd rfl hl (Nat.le_of_ble_eq_true hn) rfl (fun ls' hl' => k H locs ls' hI hS hl')
theorem ca_istore (h : ch_H X E own cc nL) {i : Nat} {x : Int32} (hd : decode cc pc = .ok (.istore i, 2)) (hn : Nat.ble (i + 1) nL = true) (k : ch_W X E nL S μ kc ks (pc + 2) (ch_ls L i (.int x)) st) : ch_W X E nL S μ kc ks pc L (.int x :: st) :=
  fun H locs ls hI hS hl => lv_istore h.1 h.2.1 hd hl (Nat.le_of_ble_eq_true hn) rfl (fun ls' hl' => k H locs ls' hI hS hl')
theorem ca_astore_n (h : ch_H X E own cc nL) {q : Fin 4} {a : Nat} (hd : decode cc pc = .ok (.astore_n q, 1)) (hn : Nat.ble ((q : Nat) + 1) nL = true) (k : ch_W X E nL S μ kc ks (pc + 1) (ch_ls L (q : Nat) (.ref a)) st) : ch_W X E nL S μ kc ks pc L (.ref a :: st) :=
  fun H locs ls hI hS hl => lv_astore_n h.1 h.2.1 hd rfl hl (Nat.le_of_ble_eq_true hn) rfl (fun ls' hl' => k H locs ls' hI hS hl')
theorem ca_astore_nn (h : ch_H X E own cc nL) {q : Fin 4} (hd : decode cc pc = .ok (.astore_n q, 1)) (hn : Nat.ble ((q : Nat) + 1) nL = true) (k : ch_W X E nL S μ kc ks (pc + 1) (ch_ls L (q : Nat) .null) st) : ch_W X E nL S μ kc ks pc L (.null :: st) :=
  fun H locs ls hI hS hl => lv_astore_nN h.1 h.2.1 hd rfl hl (Nat.le_of_ble_eq_true hn) rfl (fun ls' hl' => k H locs ls' hI hS hl')
theorem ca_astore (h : ch_H X E own cc nL) {i : Nat} {a : Nat} (hd : decode cc pc = .ok (.astore i, 2)) (hn : Nat.ble (i + 1) nL = true) (k : ch_W X E nL S μ kc ks (pc + 2) (ch_ls L i (.ref a)) st) : ch_W X E nL S μ kc ks pc L (.ref a :: st) :=
  fun H locs ls hI hS hl => lv_astore h.1 h.2.1 hd hl (Nat.le_of_ble_eq_true hn) rfl (fun ls' hl' => k H locs ls' hI hS hl')
theorem ca_iinc (h : ch_H X E own cc nL) {i : Nat} {n : Int} {x v : Int32} (hd : decode cc pc = .ok (.iinc i n, 3)) (hk : ch_lk L i = some (.int x)) (hv : Int32.ofInt n = v) (hn : Nat.ble (i + 1) nL = true) (k : ch_W X E nL S μ kc ks (pc + 3) (ch_ls L i (.int (x + v))) st) : ch_W X E nL S μ kc ks pc L st := by
  obtain ⟨q, hq⟩ := ch_lk_place hk
  subst hv
  exact fun H locs ls hI hS hl => lv_iinc h.1 h.2.1 hd hl hq rfl (Nat.le_of_ble_eq_true hn) rfl (fun ls' hl' => k H locs ls' hI hS hl')
theorem ca_iadd (h : ch_H X E own cc nL) {x y : Int32} (hd : decode cc pc = .ok (.iadd, 1)) (k : ch_W X E nL S μ kc ks (pc + 1) L (.int (x + y) :: st)) : ch_W X E nL S μ kc ks pc L (.int y :: .int x :: st) :=
  fun H locs ls hI hS hl => lv_iadd h.1 h.2.1 hd (k H locs ls hI hS hl)
theorem ca_isub (h : ch_H X E own cc nL) {x y : Int32} (hd : decode cc pc = .ok (.isub, 1)) (k : ch_W X E nL S μ kc ks (pc + 1) L (.int (x - y) :: st)) : ch_W X E nL S μ kc ks pc L (.int y :: .int x :: st) :=
  fun H locs ls hI hS hl => lv_isub h.1 h.2.1 hd (k H locs ls hI hS hl)
theorem ca_imul (h : ch_H X E own cc nL) {x y : Int32} (hd : decode cc pc = .ok (.imul, 1)) (k : ch_W X E nL S μ kc ks (pc + 1) L (.int (x * y) :: st)) : ch_W X E nL S μ kc ks pc L (.int y :: .int x :: st) :=
  fun H locs ls hI hS hl => lv_imul h.1 h.2.1 hd (k H locs ls hI hS hl)
theorem ca_iand (h : ch_H X E own cc nL) {x y : Int32} (hd : decode cc pc = .ok (.iand, 1)) (k : ch_W X E nL S μ kc ks (pc + 1) L (.int (x &&& y) :: st)) : ch_W X E nL S μ kc ks pc L (.int y :: .int x :: st) :=
  fun H locs ls hI hS hl => lv_iand h.1 h.2.1 hd (k H locs ls hI hS hl)
theorem ca_ior (h : ch_H X E own cc nL) {x y : Int32} (hd : decode cc pc = .ok (.ior, 1)) (k : ch_W X E nL S μ kc ks (pc + 1) L (.int (x ||| y) :: st)) : ch_W X E nL S μ kc ks pc L (.int y :: .int x :: st) :=
  fun H locs ls hI hS hl => lv_ior h.1 h.2.1 hd (k H locs ls hI hS hl)
theorem ca_ixor (h : ch_H X E own cc nL) {x y : Int32} (hd : decode cc pc = .ok (.ixor, 1)) (k : ch_W X E nL S μ kc ks (pc + 1) L (.int (x ^^^ y) :: st)) : ch_W X E nL S μ kc ks pc L (.int y :: .int x :: st) :=
  fun H locs ls hI hS hl => lv_ixor h.1 h.2.1 hd (k H locs ls hI hS hl)
theorem ca_idiv (h : ch_H X E own cc nL) {x y : Int32} (hd : decode cc pc = .ok (.idiv, 1)) (hne : ¬ y = 0) (k : ch_W X E nL S μ kc ks (pc + 1) L (.int (x / y) :: st)) : ch_W X E nL S μ kc ks pc L (.int y :: .int x :: st) :=
  fun H locs ls hI hS hl => lv_idiv h.1 h.2.1 hd hne (k H locs ls hI hS hl)
theorem ca_irem (h : ch_H X E own cc nL) {x y : Int32} (hd : decode cc pc = .ok (.irem, 1)) (hne : ¬ y = 0) (k : ch_W X E nL S μ kc ks (pc + 1) L (.int (x - x / y * y) :: st)) : ch_W X E nL S μ kc ks pc L (.int y :: .int x :: st) :=
  fun H locs ls hI hS hl => lv_irem h.1 h.2.1 hd hne (k H locs ls hI hS hl)
theorem ca_ishl (h : ch_H X E own cc nL) {x y : Int32} (hd : decode cc pc = .ok (.ishl, 1)) (k : ch_W X E nL S μ kc ks (pc + 1) L (.int (x <<< (y &&& 31)) :: st)) : ch_W X E nL S μ kc ks pc L (.int y :: .int x :: st) :=
  fun H locs ls hI hS hl => lv_ishl h.1 h.2.1 hd (k H locs ls hI hS hl)
theorem ca_ishr (h : ch_H X E own cc nL) {x y : Int32} (hd : decode cc pc = .ok (.ishr, 1)) (k : ch_W X E nL S μ kc ks (pc + 1) L (.int (x >>> (y &&& 31)) :: st)) : ch_W X E nL S μ kc ks pc L (.int y :: .int x :: st) :=
  fun H locs ls hI hS hl => lv_ishr h.1 h.2.1 hd (k H locs ls hI hS hl)
theorem ca_iushr (h : ch_H X E own cc nL) {x y : Int32} (hd : decode cc pc = .ok (.iushr, 1)) (k : ch_W X E nL S μ kc ks (pc + 1) L (.int ((x.toUInt32 >>> (y.toUInt32 &&& Int32.toUInt32 31)).toInt32) :: st)) : ch_W X E nL S μ kc ks pc L (.int y :: .int x :: st) :=
  fun H locs ls hI hS hl => lv_iushr h.1 h.2.1 hd rfl (k H locs ls hI hS hl)
theorem ca_i2l (h : ch_H X E own cc nL) {x : Int32} (hd : decode cc pc = .ok (.i2l, 1)) (k : ch_W X E nL S μ kc ks (pc + 1) L (.long x.toInt64 :: st)) : ch_W X E nL S μ kc ks pc L (.int x :: st) :=
  fun H locs ls hI hS hl => lv_i2l h.1 h.2.1 hd rfl (k H locs ls hI hS hl)
theorem ca_i2c (h : ch_H X E own cc nL) {x : Int32} (hd : decode cc pc = .ok (.i2c, 1)) (k : ch_W X E nL S μ kc ks (pc + 1) L (.int ((x.toUInt32 % 65536).toInt32) :: st)) : ch_W X E nL S μ kc ks pc L (.int x :: st) :=
  fun H locs ls hI hS hl => lv_i2c h.1 h.2.1 hd rfl (k H locs ls hI hS hl)
theorem ca_dup (h : ch_H X E own cc nL) {v : Value} (hd : decode cc pc = .ok (.dup, 1)) (hc : v.category = 1) (k : ch_W X E nL S μ kc ks (pc + 1) L (v :: v :: st)) : ch_W X E nL S μ kc ks pc L (v :: st) :=
  fun H locs ls hI hS hl => lv_dup h.1 h.2.1 hd hc (k H locs ls hI hS hl)
theorem ca_pop (h : ch_H X E own cc nL) {v : Value} (hd : decode cc pc = .ok (.pop, 1)) (hc : v.category = 1) (k : ch_W X E nL S μ kc ks (pc + 1) L st) : ch_W X E nL S μ kc ks pc L (v :: st) :=
  fun H locs ls hI hS hl => lv_pop h.1 h.2.1 hd hc (k H locs ls hI hS hl)
theorem ca_dup2 (h : ch_H X E own cc nL) {v w : Value} (hd : decode cc pc = .ok (.dup2, 1)) (hv : v.category = 1) (hw : w.category = 1) (k : ch_W X E nL S μ kc ks (pc + 1) L (v :: w :: v :: w :: st)) : ch_W X E nL S μ kc ks pc L (v :: w :: st) :=
  fun H locs ls hI hS hl => lv_dup2_11 h.1 h.2.1 hd hv hw (k H locs ls hI hS hl)
theorem ca_goto (h : ch_H X E own cc nL) {off : Int} {tgt : Nat} (hd : decode cc pc = .ok (.goto off, 3)) (ht : (pc : Int) + off = (tgt : Int)) (k : ch_W X E nL S μ kc ks tgt L st) : ch_W X E nL S μ kc ks pc L st :=
  fun H locs ls hI hS hl => lv_goto h.1 h.2.1 hd ht (k H locs ls hI hS hl)
theorem ca_if_eq (h : ch_H X E own cc nL) {x : Int32} {off : Int} {tgt : Nat} (hd : decode cc pc = .ok (.ifCond .eq off, 3)) (ht : (pc : Int) + off = (tgt : Int)) (kt : x = 0 → ch_W X E nL S μ kc ks tgt L st) (kf : ¬ x = 0 → ch_W X E nL S μ kc ks (pc + 3) L st) : ch_W X E nL S μ kc ks pc L (.int x :: st) :=
  fun H locs ls hI hS hl => lv_if_eq h.1 h.2.1 hd ht (fun q => kt q H locs ls hI hS hl) (fun q => kf q H locs ls hI hS hl)
theorem ca_icmp_eq (h : ch_H X E own cc nL) {x y : Int32} {off : Int} {tgt : Nat} (hd : decode cc pc = .ok (.if_icmp .eq off, 3)) (ht : (pc : Int) + off = (tgt : Int)) (kt : x = y → ch_W X E nL S μ kc ks tgt L st) (kf : ¬ x = y → ch_W X E nL S μ kc ks (pc + 3) L st) : ch_W X E nL S μ kc ks pc L (.int y :: .int x :: st) :=
  fun H locs ls hI hS hl => lv_icmp_eq h.1 h.2.1 hd ht (fun q => kt q H locs ls hI hS hl) (fun q => kf q H locs ls hI hS hl)
theorem ca_if_ne (h : ch_H X E own cc nL) {x : Int32} {off : Int} {tgt : Nat} (hd : decode cc pc = .ok (.ifCond .ne off, 3)) (ht : (pc : Int) + off = (tgt : Int)) (kt : ¬ x = 0 → ch_W X E nL S μ kc ks tgt L st) (kf : x = 0 → ch_W X E nL S μ kc ks (pc + 3) L st) : ch_W X E nL S μ kc ks pc L (.int x :: st) :=
  fun H locs ls hI hS hl => lv_if_ne h.1 h.2.1 hd ht (fun q => kt q H locs ls hI hS hl) (fun q => kf q H locs ls hI hS hl)
theorem ca_icmp_ne (h : ch_H X E own cc nL) {x y : Int32} {off : Int} {tgt : Nat} (hd : decode cc pc = .ok (.if_icmp .ne off, 3)) (ht : (pc : Int) + off = (tgt : Int)) (kt : ¬ x = y → ch_W X E nL S μ kc ks tgt L st) (kf : x = y → ch_W X E nL S μ kc ks (pc + 3) L st) : ch_W X E nL S μ kc ks pc L (.int y :: .int x :: st) :=
  fun H locs ls hI hS hl => lv_icmp_ne h.1 h.2.1 hd ht (fun q => kt q H locs ls hI hS hl) (fun q => kf q H locs ls hI hS hl)
theorem ca_if_lt (h : ch_H X E own cc nL) {x : Int32} {off : Int} {tgt : Nat} (hd : decode cc pc = .ok (.ifCond .lt off, 3)) (ht : (pc : Int) + off = (tgt : Int)) (kt : x < 0 → ch_W X E nL S μ kc ks tgt L st) (kf : ¬ x < 0 → ch_W X E nL S μ kc ks (pc + 3) L st) : ch_W X E nL S μ kc ks pc L (.int x :: st) :=
  fun H locs ls hI hS hl => lv_if_lt h.1 h.2.1 hd ht (fun q => kt q H locs ls hI hS hl) (fun q => kf q H locs ls hI hS hl)
theorem ca_icmp_lt (h : ch_H X E own cc nL) {x y : Int32} {off : Int} {tgt : Nat} (hd : decode cc pc = .ok (.if_icmp .lt off, 3)) (ht : (pc : Int) + off = (tgt : Int)) (kt : x < y → ch_W X E nL S μ kc ks tgt L st) (kf : ¬ x < y → ch_W X E nL S μ kc ks (pc + 3) L st) : ch_W X E nL S μ kc ks pc L (.int y :: .int x :: st) :=
  fun H locs ls hI hS hl => lv_icmp_lt h.1 h.2.1 hd ht (fun q => kt q H locs ls hI hS hl) (fun q => kf q H locs ls hI hS hl)
theorem ca_if_ge (h : ch_H X E own cc nL) {x : Int32} {off : Int} {tgt : Nat} (hd : decode cc pc = .ok (.ifCond .ge off, 3)) (ht : (pc : Int) + off = (tgt : Int)) (kt : ¬ x < 0 → ch_W X E nL S μ kc ks tgt L st) (kf : x < 0 → ch_W X E nL S μ kc ks (pc + 3) L st) : ch_W X E nL S μ kc ks pc L (.int x :: st) :=
  fun H locs ls hI hS hl => lv_if_ge h.1 h.2.1 hd ht (fun q => kt (Int32.not_lt.mpr q) H locs ls hI hS hl) (fun q => kf (Int32.not_le.mp q) H locs ls hI hS hl)
theorem ca_icmp_ge (h : ch_H X E own cc nL) {x y : Int32} {off : Int} {tgt : Nat} (hd : decode cc pc = .ok (.if_icmp .ge off, 3)) (ht : (pc : Int) + off = (tgt : Int)) (kt : ¬ x < y → ch_W X E nL S μ kc ks tgt L st) (kf : x < y → ch_W X E nL S μ kc ks (pc + 3) L st) : ch_W X E nL S μ kc ks pc L (.int y :: .int x :: st) :=
  fun H locs ls hI hS hl => lv_icmp_ge h.1 h.2.1 hd ht (fun q => kt (Int32.not_lt.mpr q) H locs ls hI hS hl) (fun q => kf (Int32.not_le.mp q) H locs ls hI hS hl)
theorem ca_if_gt (h : ch_H X E own cc nL) {x : Int32} {off : Int} {tgt : Nat} (hd : decode cc pc = .ok (.ifCond .gt off, 3)) (ht : (pc : Int) + off = (tgt : Int)) (kt : 0 < x → ch_W X E nL S μ kc ks tgt L st) (kf : ¬ 0 < x → ch_W X E nL S μ kc ks (pc + 3) L st) : ch_W X E nL S μ kc ks pc L (.int x :: st) :=
  fun H locs ls hI hS hl => lv_if_gt h.1 h.2.1 hd ht (fun q => kt q H locs ls hI hS hl) (fun q => kf q H locs ls hI hS hl)
theorem ca_icmp_gt (h : ch_H X E own cc nL) {x y : Int32} {off : Int} {tgt : Nat} (hd : decode cc pc = .ok (.if_icmp .gt off, 3)) (ht : (pc : Int) + off = (tgt : Int)) (kt : y < x → ch_W X E nL S μ kc ks tgt L st) (kf : ¬ y < x → ch_W X E nL S μ kc ks (pc + 3) L st) : ch_W X E nL S μ kc ks pc L (.int y :: .int x :: st) :=
  fun H locs ls hI hS hl => lv_icmp_gt h.1 h.2.1 hd ht (fun q => kt q H locs ls hI hS hl) (fun q => kf q H locs ls hI hS hl)
theorem ca_if_le (h : ch_H X E own cc nL) {x : Int32} {off : Int} {tgt : Nat} (hd : decode cc pc = .ok (.ifCond .le off, 3)) (ht : (pc : Int) + off = (tgt : Int)) (kt : ¬ 0 < x → ch_W X E nL S μ kc ks tgt L st) (kf : 0 < x → ch_W X E nL S μ kc ks (pc + 3) L st) : ch_W X E nL S μ kc ks pc L (.int x :: st) :=
  fun H locs ls hI hS hl => lv_if_le h.1 h.2.1 hd ht (fun q => kt (Int32.not_lt.mpr q) H locs ls hI hS hl) (fun q => kf (Int32.not_le.mp q) H locs ls hI hS hl)
theorem ca_icmp_le (h : ch_H X E own cc nL) {x y : Int32} {off : Int} {tgt : Nat} (hd : decode cc pc = .ok (.if_icmp .le off, 3)) (ht : (pc : Int) + off = (tgt : Int)) (kt : ¬ y < x → ch_W X E nL S μ kc ks tgt L st) (kf : y < x → ch_W X E nL S μ kc ks (pc + 3) L st) : ch_W X E nL S μ kc ks pc L (.int y :: .int x :: st) :=
  fun H locs ls hI hS hl => lv_icmp_le h.1 h.2.1 hd ht (fun q => kt (Int32.not_lt.mpr q) H locs ls hI hS hl) (fun q => kf (Int32.not_le.mp q) H locs ls hI hS hl)
theorem ca_ifnonnull (h : ch_H X E own cc nL) {a : Nat} {off : Int} {tgt : Nat} (hd : decode cc pc = .ok (.ifnonnull off, 3)) (ht : (pc : Int) + off = (tgt : Int)) (k : ch_W X E nL S μ kc ks tgt L st) : ch_W X E nL S μ kc ks pc L (.ref a :: st) :=
  fun H locs ls hI hS hl => lv_ifnonnull h.1 h.2.1 hd ht (k H locs ls hI hS hl)
theorem ca_ifnonnullN (h : ch_H X E own cc nL) {off : Int} (hd : decode cc pc = .ok (.ifnonnull off, 3)) (k : ch_W X E nL S μ kc ks (pc + 3) L st) : ch_W X E nL S μ kc ks pc L (.null :: st) :=
  fun H locs ls hI hS hl => lv_ifnonnullN h.1 h.2.1 hd (k H locs ls hI hS hl)
theorem ca_tableOut (h : ch_H X E own cc nL) {dflt lo hi : Int} {offs : Array Int} {len : Nat} {x : Int32} {tgt : Nat} (hd : decode cc pc = .ok (.tableswitch dflt lo hi offs, len)) (hx : x.toInt < lo ∨ hi < x.toInt) (ht : (pc : Int) + dflt = (tgt : Int)) (k : ch_W X E nL S μ kc ks tgt L st) : ch_W X E nL S μ kc ks pc L (.int x :: st) :=
  fun H locs ls hI hS hl => lv_tableOut h.1 h.2.1 hd hx ht (k H locs ls hI hS hl)
theorem ca_tableIn (h : ch_H X E own cc nL) {dflt lo hi : Int} {offs : Array Int} {len : Nat} {x : Int32} {off : Int} {tgt : Nat} (hd : decode cc pc = .ok (.tableswitch dflt lo hi offs, len)) (h1 : ¬ x.toInt < lo) (h2 : ¬ hi < x.toInt) (ho : offs[(x.toInt - lo).toNat]? = some off) (ht : (pc : Int) + off = (tgt : Int)) (k : ch_W X E nL S μ kc ks tgt L st) : ch_W X E nL S μ kc ks pc L (.int x :: st) :=
  fun H locs ls hI hS hl => lv_tableIn h.1 h.2.1 hd h1 h2 ho ht (k H locs ls hI hS hl)
end Rows
