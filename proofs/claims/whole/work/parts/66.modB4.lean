/-! THE QUERY's masks as bits, and codes that come to them -/
theorem nI_or {a b : Nat} (ha : a < 2 ^ 31) (hb : b < 2 ^ 31) : nI a ||| nI b = nI (a ||| b) := by
  apply Int32.toBitVec_inj.mp
  apply BitVec.eq_of_toNat_eq
  rw [Int32.toBitVec_or, BitVec.toNat_or, pk_tn (by omega), pk_tn (by omega), pk_tn (by have := Nat.or_lt_two_pow ha hb; omega)]
theorem nI_and {a b : Nat} (ha : a < 2 ^ 31) (hb : b < 2 ^ 31) : nI a &&& nI b = nI (a &&& b) := by
  apply Int32.toBitVec_inj.mp
  apply BitVec.eq_of_toNat_eq
  rw [Int32.toBitVec_and, BitVec.toNat_and, pk_tn (by omega), pk_tn (by omega), pk_tn (by have := Nat.and_lt_two_pow a hb; omega)]
theorem e_bit_c : ∀ i, i < 12 → e_bit i = nI (2 ^ i) := by decide
theorem e_all_c : ∀ c, c < 13 → (1 : Int32) <<< (nI c &&& 31) - 1 = nI (2 ^ c - 1) := by decide
theorem nI_not {x : Nat} (hx : x < 2 ^ 31) : (nI x ^^^ -1).toBitVec.toNat = 4294967295 - x := by
  rw [Int32.toBitVec_xor, show ((-1 : Int32)).toBitVec = BitVec.allOnes 32 by decide, BitVec.xor_allOnes, BitVec.toNat_not, pk_tn (by omega)]
theorem e_not_c {c x : Nat} (hc : c < 13) (hx : x < 2 ^ c) : nI (2 ^ c - 1) &&& (nI x ^^^ -1) = nI (2 ^ c - (x + 1)) := by
  have hp : 2 ^ c ≤ 4096 := Nat.pow_le_pow_right (by decide) (by omega : c ≤ 12)
  have e := pk_and (nI x ^^^ -1) (m := nI (2 ^ c - 1)) c (pk_tn (by omega))
  rw [Int32.and_comm, e, nI_not (by omega)]
  congr 1
  rcases (show c = 0 ∨ c = 1 ∨ c = 2 ∨ c = 3 ∨ c = 4 ∨ c = 5 ∨ c = 6 ∨ c = 7 ∨ c = 8 ∨ c = 9 ∨ c = 10 ∨ c = 11 ∨ c = 12 by omega) with rfl | rfl | rfl | rfl | rfl | rfl | rfl | rfl | rfl | rfl | rfl | rfl | rfl <;> omega
theorem r_op_lt (x y : Int32) : r_op (-20) x y = if x < y then 1 else 0 := by unfold r_op; rw [if_pos rfl]
theorem r_op_eq (x y : Int32) : r_op (-21) x y = if x = y then 1 else 0 := by unfold r_op; rw [if_neg (by decide), if_pos rfl]
theorem r_op_gt (x y : Int32) : r_op (-22) x y = if y < x then 1 else 0 := by unfold r_op; rw [if_neg (by decide), if_neg (by decide), if_pos rfl]
def r_bit (X i : Nat) : Int32 := if X.testBit i = true then 1 else 0
theorem p12 {c : Nat} (h : c ≤ 12) : 2 ^ c ≤ 4096 := Nat.pow_le_pow_right (by decide) h
theorem e_hold_b (n : ch_N) (ls eq : Bool) (l r : Int32) : ∀ N, N ≤ 12 → ∃ X, X < 2 ^ N ∧ e_hold n ls eq l r N = nI X ∧ ∀ i, i < N → X.testBit i = e_c ls eq (e_vf n l i) (e_vf n r i)
  | 0, _ => ⟨0, by decide, rfl, fun i hi => absurd hi (Nat.not_lt_zero _)⟩
  | N + 1, hN => by
    obtain ⟨X, hX, e, hb⟩ := e_hold_b n ls eq l r N (by omega)
    have hp := p12 (c := N) (by omega)
    have e1 : e_hold n ls eq l r (N + 1) = if e_c ls eq (e_vf n l N) (e_vf n r N) = true then e_hold n ls eq l r N ||| e_bit N else e_hold n ls eq l r N := rfl
    have hXN : X.testBit N = false := Nat.testBit_lt_two_pow hX
    by_cases g : e_c ls eq (e_vf n l N) (e_vf n r N) = true
    · rw [if_pos g, e, e_bit_c N (by omega), nI_or (by omega) (by omega)] at e1
      refine ⟨X ||| 2 ^ N, Nat.or_lt_two_pow (by rw [Nat.pow_succ]; omega) (by rw [Nat.pow_succ]; omega), e1, fun i hi => ?_⟩
      rw [Nat.testBit_or]
      by_cases z : i = N
      · subst z
        rw [hXN, Nat.testBit_two_pow_self, g]; rfl
      · rw [Nat.testBit_two_pow_of_ne (fun y => z y.symm), Bool.or_false]
        exact hb i (by omega)
    · rw [if_neg g, e] at e1
      refine ⟨X, by rw [Nat.pow_succ]; omega, e1, fun i hi => ?_⟩
      by_cases z : i = N
      · subst z
        rw [hXN]
        exact (Bool.eq_false_iff.mpr g).symm
      · exact hb i (by omega)
/-- these codes leave the mask's bit for each mobile -/
def r_cg (n : ch_N) (C : List Int32) (x : Int32) : Prop := ∃ X, X < 2 ^ k_mc n ∧ x = nI X ∧ ∀ m, m < k_mc n → ∀ st, r_evs n m C st = some (r_bit X m :: st)
theorem r_bit_not {c X m : Nat} (hX : X < 2 ^ c) (hm : m < c) : (1 : Int32) - r_bit X m = r_bit (2 ^ c - (X + 1)) m := by
  unfold r_bit
  rw [Nat.testBit_two_pow_sub_succ hX, decide_eq_true hm]
  cases X.testBit m <;> decide
theorem r_bit_and (X Y m : Nat) : r_bit X m &&& r_bit Y m = r_bit (X &&& Y) m := by
  unfold r_bit
  rw [Nat.testBit_and]
  cases X.testBit m <;> cases Y.testBit m <;> decide
theorem r_bit_or (X Y m : Nat) : r_bit X m ||| r_bit Y m = r_bit (X ||| Y) m := by
  unfold r_bit
  rw [Nat.testBit_or]
  cases X.testBit m <;> cases Y.testBit m <;> decide
theorem cg_cmp {n : ch_N} (hmc : k_mc n ≤ 12) {ls eq : Bool} {l r op : Int32} (hl : -20 < l) (hr : -20 < r) (hop : op = if ls = true then -20 else if eq = true then -21 else -22) : r_cg n [l, r, op] (e_hold n ls eq l r (k_mc n)) := by
  obtain ⟨X, hX, e, hb⟩ := e_hold_b n ls eq l r (k_mc n) hmc
  refine ⟨X, hX, e, fun m hm st => ?_⟩
  have hl3 : ¬ l = -23 := fun z => by rw [z] at hl; exact absurd hl (by decide)
  have hr3 : ¬ r = -23 := fun z => by rw [z] at hr; exact absurd hr (by decide)
  have hv : r_op op (e_vf n l m) (e_vf n r m) = r_bit X m := by
    unfold r_bit
    rw [hb m hm]
    subst hop
    cases ls
    · cases eq
      · show r_op (-22) (e_vf n l m) (e_vf n r m) = if decide (e_vf n r m < e_vf n l m) = true then 1 else 0
        rw [r_op_gt]
        by_cases g : e_vf n r m < e_vf n l m
        · rw [if_pos g, if_pos (decide_eq_true g)]
        · rw [if_neg g, if_neg (by rw [decide_eq_false g]; decide)]
      · show r_op (-21) (e_vf n l m) (e_vf n r m) = if decide (e_vf n l m = e_vf n r m) = true then 1 else 0
        rw [r_op_eq]
        by_cases g : e_vf n l m = e_vf n r m
        · rw [if_pos g, if_pos (decide_eq_true g)]
        · rw [if_neg g, if_neg (by rw [decide_eq_false g]; decide)]
    · show r_op (-20) (e_vf n l m) (e_vf n r m) = if decide (e_vf n l m < e_vf n r m) = true then 1 else 0
      rw [r_op_lt]
      by_cases g : e_vf n l m < e_vf n r m
      · rw [if_pos g, if_pos (decide_eq_true g)]
      · rw [if_neg g, if_neg (by rw [decide_eq_false g]; decide)]
  have hoN : ¬ op = -23 := by subst hop; cases ls <;> cases eq <;> decide
  have hoL : ¬ -20 < op := by subst hop; cases ls <;> cases eq <;> decide
  have e1 : r_ev1 n m l st = some (e_vf n l m :: st) := by unfold r_ev1; rw [if_neg hl3, if_pos hl]
  have e2 : r_ev1 n m r (e_vf n l m :: st) = some (e_vf n r m :: e_vf n l m :: st) := by unfold r_ev1; rw [if_neg hr3, if_pos hr]
  have e3 : r_ev1 n m op (e_vf n r m :: e_vf n l m :: st) = some (r_bit X m :: st) := by unfold r_ev1; rw [if_neg hoN, if_neg hoL, ← hv]
  show (r_ev1 n m l st).bind (fun s => (r_ev1 n m r s).bind (fun s => (r_ev1 n m op s).bind some)) = _
  rw [e1]
  show (r_ev1 n m r (e_vf n l m :: st)).bind (fun s => (r_ev1 n m op s).bind some) = _
  rw [e2]
  show (r_ev1 n m op (e_vf n r m :: e_vf n l m :: st)).bind some = _
  rw [e3]
  rfl
theorem cg_not {n : ch_N} (hmc : k_mc n ≤ 12) (h0 : ¬ n 0 0 2 < 0) {C : List Int32} {x : Int32} (h : r_cg n C x) : r_cg n (C ++ [-23]) (e_all n &&& (x ^^^ -1)) := by
  obtain ⟨X, hX, e, hb⟩ := h
  have ea : e_all n = nI (2 ^ k_mc n - 1) := by
    unfold e_all
    rw [show n 0 0 2 = nI (k_mc n) from (nI_cn h0).symm]
    exact e_all_c (k_mc n) (by omega)
  refine ⟨2 ^ k_mc n - (X + 1), by omega, by rw [ea, e]; exact e_not_c (by omega) hX, fun m hm st => ?_⟩
  rw [r_evs_app, hb m hm st]
  show (r_ev1 n m (-23) (r_bit X m :: st)).bind some = _
  have e3 : r_ev1 n m (-23) (r_bit X m :: st) = some (r_bit (2 ^ k_mc n - (X + 1)) m :: st) := by unfold r_ev1; rw [if_pos rfl, ← r_bit_not hX hm]
  rw [e3]; rfl
theorem cg_and {n : ch_N} (hmc : k_mc n ≤ 12) {C D : List Int32} {x y : Int32} (h : r_cg n C x) (h2 : r_cg n D y) : r_cg n (C ++ D ++ [-24]) (x &&& y) := by
  obtain ⟨X, hX, e, hb⟩ := h
  obtain ⟨Y, hY, e2, hb2⟩ := h2
  have hp := p12 hmc
  refine ⟨X &&& Y, Nat.and_lt_two_pow X hY, by rw [e, e2, nI_and (by omega) (by omega)], fun m hm st => ?_⟩
  rw [r_evs_app, r_evs_app, hb m hm st]
  show ((r_evs n m D (r_bit X m :: st)).bind (r_evs n m [-24])) = _
  rw [hb2 m hm]
  show (r_ev1 n m (-24) (r_bit Y m :: r_bit X m :: st)).bind some = _
  have e3 : r_ev1 n m (-24) (r_bit Y m :: r_bit X m :: st) = some (r_bit (X &&& Y) m :: st) := by unfold r_ev1; rw [if_neg (by decide), if_neg (by decide), ← r_bit_and]; rfl
  rw [e3]; rfl
theorem cg_or {n : ch_N} (hmc : k_mc n ≤ 12) {C D : List Int32} {x y : Int32} (h : r_cg n C x) (h2 : r_cg n D y) : r_cg n (C ++ D ++ [-25]) (x ||| y) := by
  obtain ⟨X, hX, e, hb⟩ := h
  obtain ⟨Y, hY, e2, hb2⟩ := h2
  have hp := p12 hmc
  refine ⟨X ||| Y, Nat.or_lt_two_pow hX hY, by rw [e, e2, nI_or (by omega) (by omega)], fun m hm st => ?_⟩
  rw [r_evs_app, r_evs_app, hb m hm st]
  show ((r_evs n m D (r_bit X m :: st)).bind (r_evs n m [-25])) = _
  rw [hb2 m hm]
  show (r_ev1 n m (-25) (r_bit Y m :: r_bit X m :: st)).bind some = _
  have e3 : r_ev1 n m (-25) (r_bit Y m :: r_bit X m :: st) = some (r_bit (X ||| Y) m :: st) := by unfold r_ev1; rw [if_neg (by decide), if_neg (by decide), ← r_bit_or]; rfl
  rw [e3]; rfl
