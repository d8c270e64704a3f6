/-! THE MEMORY: objects have names (k, kd, i): k the network, kd the kind, i the place; a slot's int is μ k kd i j. -/
-- base address, class numbers and slots, class ids of arrays, addresses of String constants and of their bytes
abbrev ch_E : Type := Nat × va_G × (Nat → Nat) × (Nat → Nat) × (Nat → Nat)
-- addresses, which names are there, references
abbrev ch_S : Type := (Nat → Nat → Nat → Nat) × (Nat → Nat → Nat → Prop) × (Nat → Nat → Nat → Nat → Option Nat)
abbrev ch_M : Type := Nat → Nat → Nat → Nat → Int32
abbrev ch_X : Type := Program × Launch × Env × Room × State × MethodId × Array Value × List Frame × Method × Code × (State → Prop)
abbrev ch_cl : List vw_C := [(RX0, TX0, 9), (RX1, TX1, 3), (RX2, TX2, 13), (RX3, TX3, 17), (RX4, TX4, 2), (RX4, TX4, 2), (RX6, TX6, 4), (RX7, TX7, 4), (RX8, TX8, 1), (RX9, TX9, 1), (RX10, TX10, 8), (RX11, TX11, 8), (RX12, TX12, 13), (RX13, TX13, 16)]
def ch_ty (t : Nat) : FieldType := match t with
  | 0 => .int
  | 1 => .object "CellHandover$Cell"
  | 2 => .object "CellHandover$Relation"
  | 3 => .object "CellHandover$Mobile"
  | 4 => .object "CellHandover$Network"
  | 5 => .array .int
  | _ => .object "CellHandoverLaw$Mobile"
def ch_tys (E : ch_E) : List (ClassId × FieldType) := [(E.2.2.1 0, ch_ty 0), (E.2.2.1 1, ch_ty 1), (E.2.2.1 2, ch_ty 2), (E.2.2.1 3, ch_ty 3), (E.2.2.1 4, ch_ty 4), (E.2.2.1 5, ch_ty 5), (E.2.2.1 6, ch_ty 6)]
/-- a kind: an object of a class, or an array (of a type, its form, its length) -/
def ch_kd (kd : Nat) : Nat ⊕ (Nat × Nat × Nat) := match kd with
  | 0 => .inl 3
  | 1 => .inl 0
  | 2 => .inl 7
  | 3 => .inl 2
  | 4 => .inr (0, 0, 64)
  | 5 => .inr (0, 0, 8)
  | 6 => .inr (0, 0, 8)
  | 7 => .inr (0, 0, 8)
  | 8 => .inr (1, 1, 8)
  | 9 => .inr (2, 1, 64)
  | 10 => .inr (3, 1, 12)
  | 11 => .inl 11
  | 12 => .inl 10
  | 13 => .inr (0, 0, 700)
  | 14 => .inl 1
  | 15 => .inr (4, 1, 12)
  | 16 => .inl 8
  | 17 => .inl 6
  | 18 => .inr (0, 0, 8)
  | 19 => .inr (0, 0, 8)
  | 20 => .inl 9
  | 21 => .inr (0, 0, 64)
  | 22 => .inl 13
  | 23 => .inl 12
  | 24 => .inr (5, 1, 8)
  | 25 => .inr (6, 1, 12)
  | 35 => .inl 4
  | _ => .inr (0, 0, kd - 40)
/-- is this slot of that class a reference -/
def ch_rs (ci j : Nat) : Bool := match ci with
  | 1 => j == 2
  | 2 => Nat.ble 10 j
  | 3 => Nat.ble 10 j
  | 4 => true
  | 5 => true
  | 6 => Nat.ble 2 j
  | 8 => true
  | 9 => true
  | 10 => j == 3
  | 11 => Nat.ble j 6
  | 12 => Nat.ble 11 j
  | 13 => Nat.ble 9 j
  | _ => false
/-- is it a boolean -/
def ch_zs (ci j : Nat) : Bool := match ci with
  | 6 => j == 1
  | 7 => j == 0
  | 11 => j == 7
  | _ => false
def ch_size (ci : Nat) : Nat := match ci with
  | 0 => 9 | 1 => 3 | 2 => 13 | 3 => 17 | 4 => 2 | 5 => 2 | 6 => 4 | 7 => 4 | 8 => 1 | 9 => 1 | 10 => 8 | 11 => 8 | 12 => 13 | _ => 16
def ch_v (S : ch_S) (μ : ch_M) (ci k kd i j : Nat) : Value := if ch_rs ci j = true then va_rf (S.2.2 k kd i j) else .int (μ k kd i j)
def ch_fs (S : ch_S) (μ : ch_M) (ci k kd i : Nat) : List Value := (List.range (ch_size ci)).map (ch_v S μ ci k kd i)
def ch_ct (E : ch_E) (S : ch_S) (μ : ch_M) (k kd i : Nat) : va_E := match ch_kd kd with
  | .inl ci => .inr (ci, ch_fs S μ ci k kd i)
  | .inr (t, 0, n) => .inl (E.2.2.1 t, n, .inl (μ k kd i))
  | .inr (t, 1, n) => .inl (E.2.2.1 t, n, .inr (.inr (.inr (.inr (S.2.2 k kd i)))))
  | .inr (t, _, n) => .inl (E.2.2.1 t, n, .inr (.inl (fun j => (μ k kd i j).toInt64)))
/-- the heap holds the memory -/
def ch_I (E : ch_E) (S : ch_S) (μ : ch_M) (H : Heap) : Prop :=
  (∀ k kd i, S.2.1 k kd i → va_at E.2.1 ch_cl (S.1 k kd i, ch_ct E S μ k kd i) H) ∧
  (∀ k kd i k' kd' i', S.2.1 k kd i → S.2.1 k' kd' i' → S.1 k kd i = S.1 k' kd' i' → k = k' ∧ kd = kd' ∧ i = i') ∧
  (∀ k kd i, S.2.1 k kd i → E.1 ≤ S.1 k kd i) ∧
  (∀ k kd i ci j, S.2.1 k kd i → ch_kd kd = .inl ci → ch_zs ci j = true → μ k kd i j = 0 ∨ μ k kd i j = 1)
def up {α : Type} (f : Nat → α) (a : Nat) (v : α) : Nat → α := fun x => if x = a then v else f x
theorem up_s {α : Type} (f : Nat → α) (a : Nat) (v : α) : up f a v a = v := by simp [up]
theorem up_n {α : Type} {f : Nat → α} {a b : Nat} {v : α} (h : b ≠ a) : up f a v b = f b := by simp [up, h]
theorem up_up {α : Type} (f : Nat → α) (a : Nat) (v w : α) : up (up f a v) a w = up f a w := by
  funext x; by_cases h : x = a <;> simp [up, h]
theorem up_id {α : Type} (f : Nat → α) (a : Nat) : up f a (f a) = f := by
  funext x; by_cases h : x = a <;> simp [up, h]
/-- one slot of a network's memory -/
abbrev ch_N : Type := Nat → Nat → Nat → Int32
def nw (n : ch_N) (kd i j : Nat) (v : Int32) : ch_N := up n kd (up (n kd) i (up (n kd i) j v))
def ch_st (μ : ch_M) (k kd i j : Nat) (v : Int32) : ch_M := up μ k (nw (μ k) kd i j v)
theorem ch_st_at (μ : ch_M) (k kd i j : Nat) (v : Int32) (k' kd' i' j' : Nat) : ch_st μ k kd i j v k' kd' i' j' = if k' = k ∧ kd' = kd ∧ i' = i ∧ j' = j then v else μ k' kd' i' j' := by
  unfold ch_st nw up
  by_cases h1 : k' = k <;> by_cases h2 : kd' = kd <;> by_cases h3 : i' = i <;> by_cases h4 : j' = j <;> simp [h1, h2, h3, h4]
theorem ch_st_ne {μ : ch_M} {k kd i j : Nat} {v : Int32} {k' kd' i' : Nat} (h : ¬ (k' = k ∧ kd' = kd ∧ i' = i)) : ch_st μ k kd i j v k' kd' i' = μ k' kd' i' := by
  funext j'
  rw [ch_st_at, if_neg (fun q => h ⟨q.1, q.2.1, q.2.2.1⟩)]
theorem ch_st_same (μ : ch_M) (k kd i j : Nat) (v : Int32) : ch_st μ k kd i j v k kd i = up (μ k kd i) j v := by
  funext j'
  rw [ch_st_at]
  by_cases h : j' = j <;> simp [up, h]
theorem ch_fs_get {S : ch_S} {μ : ch_M} {ci k kd i j : Nat} (h : j < ch_size ci) : (ch_fs S μ ci k kd i)[j]? = some (ch_v S μ ci k kd i j) := by
  simp [ch_fs, h]
theorem ch_ct_o {E : ch_E} {S : ch_S} {μ : ch_M} {k kd i ci : Nat} (h : ch_kd kd = .inl ci) : ch_ct E S μ k kd i = .inr (ci, ch_fs S μ ci k kd i) := by
  unfold ch_ct; rw [h]
theorem ch_ct_a {E : ch_E} {S : ch_S} {μ : ch_M} {k kd i t n : Nat} (h : ch_kd kd = .inr (t, 0, n)) : ch_ct E S μ k kd i = .inl (E.2.2.1 t, n, .inl (μ k kd i)) := by
  unfold ch_ct; rw [h]; rfl
theorem ch_ct_q {E : ch_E} {S : ch_S} {μ : ch_M} {k kd i t n : Nat} (h : ch_kd kd = .inr (t, 1, n)) : ch_ct E S μ k kd i = .inl (E.2.2.1 t, n, .inr (.inr (.inr (.inr (S.2.2 k kd i))))) := by
  unfold ch_ct; rw [h]; rfl
theorem ch_ct_l {E : ch_E} {S : ch_S} {μ : ch_M} {k kd i t n : Nat} (h : ch_kd kd = .inr (t, 2, n)) : ch_ct E S μ k kd i = .inl (E.2.2.1 t, n, .inr (.inl (fun j => (μ k kd i j).toInt64))) := by
  unfold ch_ct; rw [h]; rfl
theorem ch_ct_ne {E : ch_E} {S : ch_S} {μ : ch_M} {k kd i j : Nat} {v : Int32} {k' kd' i' : Nat} (h : ¬ (k' = k ∧ kd' = kd ∧ i' = i)) : ch_ct E S (ch_st μ k kd i j v) k' kd' i' = ch_ct E S μ k' kd' i' := by
  have e := ch_st_ne (μ := μ) (j := j) (v := v) h
  have e2 : ∀ ci, ch_fs S (ch_st μ k kd i j v) ci k' kd' i' = ch_fs S μ ci k' kd' i' := by
    intro ci
    have e3 : ch_v S (ch_st μ k kd i j v) ci k' kd' i' = ch_v S μ ci k' kd' i' := by funext j'; unfold ch_v; rw [e]
    unfold ch_fs; rw [e3]
  unfold ch_ct
  simp only [e2, e]
theorem ch_fs_set {S : ch_S} {μ : ch_M} {ci k kd i j : Nat} {v : Int32} (h : j < ch_size ci) (hr : ch_rs ci j = false) : (ch_fs S μ ci k kd i).set j (.int v) = ch_fs S (ch_st μ k kd i j v) ci k kd i := by
  apply List.ext_getElem?
  intro j'
  by_cases hj : j' < ch_size ci
  · rw [ch_fs_get hj]
    by_cases e : j' = j
    · subst e
      have hl : j' < (ch_fs S μ ci k kd i).length := by simp [ch_fs, hj]
      rw [List.getElem?_set_self hl]
      unfold ch_v
      rw [if_neg (by rw [hr]; decide), ch_st_same, up_s]
    · rw [List.getElem?_set_ne (fun q => e q.symm), ch_fs_get hj]
      unfold ch_v
      rw [ch_st_same, up_n e]
  · have hl : (ch_fs S μ ci k kd i).length ≤ j' := by simp [ch_fs]; omega
    have hl2 : (ch_fs S (ch_st μ k kd i j v) ci k kd i).length ≤ j' := by simp [ch_fs]; omega
    rw [List.getElem?_eq_none hl2, List.getElem?_eq_none (by rw [List.length_set]; exact hl)]
theorem ch_clN (ci : Nat) (hci : ci < 14) : ∃ q : vw_C, ch_cl[ci]? = some q ∧ q.2.2 = ch_size ci := by
  rcases (show ci = 0 ∨ ci = 1 ∨ ci = 2 ∨ ci = 3 ∨ ci = 4 ∨ ci = 5 ∨ ci = 6 ∨ ci = 7 ∨ ci = 8 ∨ ci = 9 ∨ ci = 10 ∨ ci = 11 ∨ ci = 12 ∨ ci = 13 by omega) with rfl | rfl | rfl | rfl | rfl | rfl | rfl | rfl | rfl | rfl | rfl | rfl | rfl | rfl <;> exact ⟨_, rfl, rfl⟩
/-- a cell written: the rest stays -/
theorem ch_I_put {E : ch_E} {S : ch_S} {μ : ch_M} {H H1 : Heap} {k kd i j : Nat} {v : Int32} (h : ch_I E S μ H) (hv : S.2.1 k kd i) (he : va_at E.2.1 ch_cl (S.1 k kd i, ch_ct E S (ch_st μ k kd i j v) k kd i) H1) (ho : ∀ q : Nat, q ≠ S.1 k kd i → H1[q]? = H[q]?) (hz : ∀ ci, ch_kd kd = .inl ci → ch_zs ci j = true → v = 0 ∨ v = 1) : ch_I E S (ch_st μ k kd i j v) H1 := by
  obtain ⟨h1, h2, h3, h4⟩ := h
  refine ⟨fun k' kd' i' hv' => ?_, h2, h3, fun k' kd' i' ci j' hv' hc hz' => ?_⟩
  · by_cases e : k' = k ∧ kd' = kd ∧ i' = i
    · obtain ⟨rfl, rfl, rfl⟩ := e
      exact he
    · rw [ch_ct_ne e]
      exact (h1 k' kd' i' hv').kept (ho _ (fun q => e (h2 _ _ _ _ _ _ hv' hv q)))
  · rw [ch_st_at]
    by_cases e : k' = k ∧ kd' = kd ∧ i' = i ∧ j' = j
    · rw [if_pos e]
      obtain ⟨rfl, rfl, rfl, rfl⟩ := e
      exact hz ci hc hz'
    · rw [if_neg e]
      exact h4 k' kd' i' ci j' hv' hc hz'
theorem ch_kdn (n : Nat) : ch_kd (n + 40) = .inr (0, 0, n) := rfl
