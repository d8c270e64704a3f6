/-! THE LAW'S OWN MODEL: the first request of a queue -/
theorem o_NW_x {n : ch_N} {w : Nat → Int32} {S S' : ch_S} {μ μ' : ch_M} (h : o_NW n w S μ) (e1 : S'.1 16 = S.1 16) (e2 : S'.1 18 = S.1 18) (e3 : S'.2.1 16 = S.2.1 16) (e4 : S'.2.1 18 = S.2.1 18) (e5 : S'.2.2 16 = S.2.2 16) (m16 : μ' 16 = μ 16) (m18 : μ' 18 = μ 18) : o_NW n w S' μ' := by
  have k16 : ∀ {k kd i cc M}, o_V cc M k kd i → k = 16 := by
    intro k kd i cc M hv
    unfold o_V at hv
    split at hv <;> first | exact hv.1 | exact hv.elim
  have r16 : ∀ {kd i j cc M a}, o_rt cc M 16 kd i j = some a → a.1 = 16 := by
    intro kd i j cc M a hr
    unfold o_rt at hr
    split at hr
    · split at hr <;> first | (cases hr; rfl) | cases hr
    · split at hr <;> first | (cases hr; rfl) | cases hr
    · split at hr <;> first | (cases hr; rfl) | cases hr
    · split at hr <;> first | (cases hr; rfl) | cases hr
    · cases hr
  refine o_NW_mk (cc := k_cc n) (M := k_mc n) ⟨fun k kd i hv => ?_, fun k kd i j a hv hr => ?_, by rw [e4]; exact h.st.2.2⟩ rfl rfl h.rn ⟨fun j hj => by rw [m16]; exact h.R.1 j hj, fun m hm => ?_⟩ ?_
  · have e := k16 hv; subst e
    rw [e3]; exact h.st.1 _ _ _ hv
  · have e := k16 hv; subst e
    rw [e5, h.st.2.1 _ _ _ _ _ hv hr, r16 hr, e1]
  · obtain ⟨h1, h2, h3⟩ := h.R.2 m hm
    refine ⟨fun f hf => by rw [m16]; exact h1 f hf, fun c hc => by rw [m16]; exact h2 c hc, fun c hc => ?_⟩
    obtain ⟨N, id, g1, g2, g3, g4, g5⟩ := h3 c hc
    exact ⟨N, id, g1, g2, by rw [e4]; exact g3, by rw [e5, e2]; exact g4, fun t ht => by rw [m18]; exact g5 t ht⟩
  · obtain ⟨h1, h2, h3, h4⟩ := h.A
    unfold o_A
    rw [m16]
    exact ⟨h1, h2, h3, h4⟩
theorem o_NW_nw {n : ch_N} {w : Nat → Int32} {S S' : ch_S} {μ μ' : ch_M} {k kd i : Nat} (h : o_NW n w S μ) (g : o_nw k kd i S μ S' μ') (h16 : 16 ≠ k) (h18 : 18 ≠ k) : o_NW n w S' μ' :=
  o_NW_x h (o_nw_a g h16) (o_nw_a g h18) (o_nw_v g h16) (o_nw_v g h18) (o_nw_r g h16) (o_nw_m g h16) (o_nw_m g h18)
theorem o_NW_st {n : ch_N} {w : Nat → Int32} {S : ch_S} {μ : ch_M} {k kd i j : Nat} {v : Int32} (h : o_NW n w S μ) (h16 : 16 ≠ k) (h18 : 18 ≠ k) : o_NW n w S (ch_st μ k kd i j v) :=
  o_NW_x h rfl rfl rfl rfl rfl (by unfold ch_st; exact up_n h16) (by unfold ch_st; exact up_n h18)
/-- requests are no older than 40 ticks -/
def o_age (n : ch_N) : Prop := ∀ m, m < k_mc n → ¬ n 3 m 8 = -1 → ∃ a, a ≤ 40 ∧ n 0 0 3 - n 3 m 9 = nI a
def o_K (n : ch_N) (m : Nat) : Nat := (if n 3 m 4 = 1 then 0 else 41) + (40 - Int32.toNatClampNeg (n 0 0 3 - n 3 m 9))
theorem o_Kc {n : ch_N} {m kd s a : Nat} (ha : a ≤ 40) (e : n 0 0 3 - n 3 m 9 = nI a) (hk : kd < 2) (hs : s ≤ 40) : ((if n 3 m 4 = 1 then (0 : Int32) else 1) = nI kd ∧ n 0 0 3 - n 3 m 9 = nI s) ↔ o_K n m = 41 * kd + (40 - s) := by
  unfold o_K
  rw [e, nI_clamp (show a < 2 ^ 31 by omega), nI_eq (show a < 2 ^ 31 by omega) (show s < 2 ^ 31 by omega)]
  have e0 : (0 : Int32) = nI 0 := rfl
  have e1 : (1 : Int32) = nI 1 := rfl
  by_cases h : n 3 m 4 = 1
  · rw [if_pos h, if_pos h, e0, nI_eq (by decide) (by omega)]; omega
  · rw [if_neg h, if_neg h, e1, nI_eq (by decide) (by omega)]; omega
/-- how many requests of c come before the place (T, m) -/
def o_cn (n : ch_N) (c T m : Nat) : Nat := kf (fun i r => if n 3 i 8 = nI c ∧ (o_K n i < T ∨ o_K n i = T ∧ i < m) then r + 1 else r) (k_mc n) 0
theorem kf_cnt_eq {p q : Nat → Prop} [DecidablePred p] [DecidablePred q] : ∀ N, (∀ i, i < N → (p i ↔ q i)) → kf (fun i r => if p i then r + 1 else r) N (0 : Nat) = kf (fun i r => if q i then r + 1 else r) N 0
  | 0, _ => rfl
  | N + 1, h => by
    show (if p N then kf (fun i r => if p i then r + 1 else r) N 0 + 1 else kf (fun i r => if p i then r + 1 else r) N 0) = (if q N then kf (fun i r => if q i then r + 1 else r) N 0 + 1 else kf (fun i r => if q i then r + 1 else r) N 0)
    rw [kf_cnt_eq N (fun i hi => h i (by omega))]
    by_cases hp : p N
    · rw [if_pos hp, if_pos ((h N (by omega)).mp hp)]
    · rw [if_neg hp, if_neg (fun z => hp ((h N (by omega)).mpr z))]
theorem kf_cnt_add {p q : Nat → Prop} [DecidablePred p] [DecidablePred q] {m : Nat} (hm : q m ∧ ¬ p m) : ∀ N, (∀ i, i < N → i ≠ m → (p i ↔ q i)) → m < N → kf (fun i r => if q i then r + 1 else r) N (0 : Nat) = kf (fun i r => if p i then r + 1 else r) N 0 + 1
  | 0, _, h => absurd h (Nat.not_lt_zero _)
  | N + 1, h, hN => by
    show (if q N then kf (fun i r => if q i then r + 1 else r) N 0 + 1 else kf (fun i r => if q i then r + 1 else r) N 0) = (if p N then kf (fun i r => if p i then r + 1 else r) N 0 + 1 else kf (fun i r => if p i then r + 1 else r) N 0) + 1
    by_cases e : N = m
    · subst e
      rw [if_pos hm.1, if_neg hm.2, kf_cnt_eq N (fun i hi => h i (by omega) (by omega))]
    · rw [kf_cnt_add hm N (fun i hi => h i (by omega)) (by omega)]
      by_cases hp : p N
      · rw [if_pos hp, if_pos ((h N (by omega) e).mp hp)]
      · rw [if_neg hp, if_neg (fun z => hp ((h N (by omega) e).mpr z))]
theorem kf_cnt_le {p : Nat → Prop} [DecidablePred p] : ∀ N, kf (fun i r => if p i then r + 1 else r) N (0 : Nat) ≤ N
  | 0 => Nat.le_refl _
  | N + 1 => by
    show (if p N then kf (fun i r => if p i then r + 1 else r) N 0 + 1 else kf (fun i r => if p i then r + 1 else r) N 0) ≤ N + 1
    have := kf_cnt_le (p := p) N
    split <;> omega
theorem kf_cnt_mono {p q : Nat → Prop} [DecidablePred p] [DecidablePred q] : ∀ N, (∀ i, i < N → p i → q i) → kf (fun i r => if p i then r + 1 else r) N (0 : Nat) ≤ kf (fun i r => if q i then r + 1 else r) N 0
  | 0, _ => Nat.le_refl _
  | N + 1, h => by
    show (if p N then kf (fun i r => if p i then r + 1 else r) N 0 + 1 else kf (fun i r => if p i then r + 1 else r) N 0) ≤ (if q N then kf (fun i r => if q i then r + 1 else r) N 0 + 1 else kf (fun i r => if q i then r + 1 else r) N 0)
    have := kf_cnt_mono (p := p) (q := q) N (fun i hi => h i (by omega))
    by_cases hp : p N
    · rw [if_pos hp, if_pos (h N (by omega) hp)]; omega
    · rw [if_neg hp]; split <;> omega
theorem kf_cnt_0 {p : Nat → Prop} [DecidablePred p] : ∀ N, kf (fun i r => if p i then r + 1 else r) N (0 : Nat) = 0 → ∀ i, i < N → ¬ p i
  | 0, _, i, hi => absurd hi (Nat.not_lt_zero _)
  | N + 1, h, i, hi => by
    have h' : (if p N then kf (fun i r => if p i then r + 1 else r) N 0 + 1 else kf (fun i r => if p i then r + 1 else r) N 0) = 0 := h
    by_cases hp : p N
    · rw [if_pos hp] at h'; omega
    · rw [if_neg hp] at h'
      by_cases e : i = N
      · rw [e]; exact hp
      · exact kf_cnt_0 N h' i (by omega)
theorem kf_cnt_F {p : Nat → Prop} [DecidablePred p] : ∀ N, (∀ i, i < N → ¬ p i) → kf (fun i r => if p i then r + 1 else r) N (0 : Nat) = 0
  | 0, _ => rfl
  | N + 1, h => by
    show (if p N then kf (fun i r => if p i then r + 1 else r) N 0 + 1 else kf (fun i r => if p i then r + 1 else r) N 0) = 0
    rw [if_neg (h N (by omega)), kf_cnt_F N (fun i hi => h i (by omega))]
theorem kf_cnt_I {p : Nat → Prop} [DecidablePred p] : ∀ N, kf (fun i r => if p i then r + 1 else r) N (0 : Int32) = nI (kf (fun i r => if p i then r + 1 else r) N (0 : Nat))
  | 0 => rfl
  | N + 1 => by
    show (if p N then kf (fun i r => if p i then r + 1 else r) N 0 + 1 else kf (fun i r => if p i then r + 1 else r) N 0) = nI (if p N then kf (fun i r => if p i then r + 1 else r) N 0 + 1 else kf (fun i r => if p i then r + 1 else r) N 0)
    rw [kf_cnt_I N]
    split
    · exact nI_1 _
    · rfl
def o_W (n : ch_N) (c : Nat) : Nat := kf (fun i r => if n 3 i 8 = nI c then r + 1 else r) (k_mc n) 0
theorem o_W_rq (n : ch_N) (c : Nat) : k_rq n (nI c) = nI (o_W n c) := kf_cnt_I (p := fun i => n 3 i 8 = nI c) _
theorem o_W_le (n : ch_N) (c : Nat) : o_W n c ≤ k_mc n := kf_cnt_le (p := fun i => n 3 i 8 = nI c) _
theorem o_cn_yes {n : ch_N} {c T m : Nat} (hm : m < k_mc n) (h8 : n 3 m 8 = nI c) (hK : o_K n m = T) : o_cn n c T (m + 1) = o_cn n c T m + 1 ∧ o_cn n c T m < o_W n c := by
  have e := kf_cnt_add (p := fun i => n 3 i 8 = nI c ∧ (o_K n i < T ∨ o_K n i = T ∧ i < m)) (q := fun i => n 3 i 8 = nI c ∧ (o_K n i < T ∨ o_K n i = T ∧ i < m + 1)) (m := m) ⟨⟨h8, Or.inr ⟨hK, by omega⟩⟩, fun z => by omega⟩ (k_mc n) (fun i hi hne => by constructor <;> (rintro ⟨a, b⟩; exact ⟨a, by omega⟩)) hm
  refine ⟨e, ?_⟩
  have l := kf_cnt_mono (p := fun i => n 3 i 8 = nI c ∧ (o_K n i < T ∨ o_K n i = T ∧ i < m + 1)) (q := fun i => n 3 i 8 = nI c) (k_mc n) (fun i _ z => z.1)
  have e' : o_cn n c T m + 1 ≤ o_W n c := by rw [← show _ = o_cn n c T m + 1 from e]; exact l
  omega
theorem o_cn_no {n : ch_N} {c T m : Nat} (h : ¬ (n 3 m 8 = nI c ∧ o_K n m = T)) : o_cn n c T (m + 1) = o_cn n c T m :=
  (kf_cnt_eq (p := fun i => n 3 i 8 = nI c ∧ (o_K n i < T ∨ o_K n i = T ∧ i < m)) (q := fun i => n 3 i 8 = nI c ∧ (o_K n i < T ∨ o_K n i = T ∧ i < m + 1)) _ (fun i _ => by
    by_cases e : i = m
    · subst e; constructor <;> (rintro ⟨a, b⟩; refine ⟨a, ?_⟩; rcases b with b | b; (· exact Or.inl b); (· first | exact absurd ⟨a, b.1⟩ h | omega))
    · constructor <;> (rintro ⟨a, b⟩; exact ⟨a, by omega⟩))).symm
theorem o_cn_next {n : ch_N} {c T : Nat} : o_cn n c (T + 1) 0 = o_cn n c T (k_mc n) :=
  kf_cnt_eq (p := fun i => n 3 i 8 = nI c ∧ (o_K n i < T + 1 ∨ o_K n i = T + 1 ∧ i < 0)) (q := fun i => n 3 i 8 = nI c ∧ (o_K n i < T ∨ o_K n i = T ∧ i < k_mc n)) _ (fun i hi => by constructor <;> (rintro ⟨a, b⟩; exact ⟨a, by omega⟩))
theorem o_cn_z {n : ch_N} {c : Nat} : o_cn n c 0 0 = 0 := kf_cnt_F (p := fun i => n 3 i 8 = nI c ∧ (o_K n i < 0 ∨ o_K n i = 0 ∧ i < 0)) _ (fun i _ z => by omega)
theorem o_cn_all {n : ch_N} {c T : Nat} (hT : 82 ≤ T) : o_cn n c T 0 = o_W n c :=
  kf_cnt_eq (p := fun i => n 3 i 8 = nI c ∧ (o_K n i < T ∨ o_K n i = T ∧ i < 0)) (q := fun i => n 3 i 8 = nI c) _ (fun i hi => by
    have : o_K n i < 82 := by unfold o_K; split <;> omega
    constructor
    · exact fun z => z.1
    · exact fun z => ⟨z, Or.inl (by omega)⟩)
/-- the first request of c -/
def o_fst (n : ch_N) (c i0 : Nat) : Prop := i0 < k_mc n ∧ n 3 i0 8 = nI c ∧ ∀ i, i < k_mc n → n 3 i 8 = nI c → o_K n i0 < o_K n i ∨ (o_K n i0 = o_K n i ∧ i0 ≤ i)
def o_qi (n : ch_N) (c T m : Nat) (v : Int32) : Prop := 0 < o_cn n c T m → ∃ i0, o_fst n c i0 ∧ v = nI i0
theorem o_qi_new {n : ch_N} {c T m : Nat} (hm : m < k_mc n) (h8 : n 3 m 8 = nI c) (hK : o_K n m = T) (h0 : o_cn n c T m = 0) : o_fst n c m := by
  refine ⟨hm, h8, fun i hi h => ?_⟩
  have z := kf_cnt_0 (p := fun i => n 3 i 8 = nI c ∧ (o_K n i < T ∨ o_K n i = T ∧ i < m)) _ h0 i hi
  rcases Nat.lt_trichotomy (o_K n i) T with g | g | g
  · exact absurd ⟨h, Or.inl g⟩ z
  · by_cases g2 : i < m
    · exact absurd ⟨h, Or.inr ⟨g, g2⟩⟩ z
    · exact Or.inr ⟨by omega, by omega⟩
  · exact Or.inl (by omega)
theorem o_tick {n : ch_N} {w : Nat → Int32} (hr : r_N n w) {i a : Nat} (ha : a ≤ 40) (e : n 0 0 3 - n 3 i 9 = nI a) : (n 3 i 9).toInt = (n 0 0 3).toInt - a := by
  have h1 : n 3 i 9 = n 0 0 3 - nI a := by
    have h2 : n 0 0 3 = n 3 i 9 + nI a := by rw [← e, Int32.add_comm, Int32.sub_add_cancel]
    rw [h2, Int32.add_sub_cancel]
  obtain ⟨⟨h0, h5, -⟩, -⟩ := hr.2.1.2
  obtain ⟨C, hC, eC⟩ := nI_of h0
  have hC2 : C ≤ 100000 := by
    rw [eC] at h5
    exact Nat.not_lt.mp (fun z => h5 ((nI_ltI (by decide) hC).mpr z))
  rw [h1, eC, pk_sub_toInt (by omega) (by omega), nI_toInt (by omega)]
/-- comesBefore, by the keys -/
theorem o_cb {n : ch_N} {w : Nat → Int32} (hr : r_N n w) (hA : o_age n) {i j : Nat} (hi : i < k_mc n) (hj : j < k_mc n) (h8i : ¬ n 3 i 8 = -1) (h8j : ¬ n 3 j 8 = -1) : k_cb n i j = true ↔ (o_K n i < o_K n j ∨ (o_K n i = o_K n j ∧ i < j)) := by
  obtain ⟨a, ha, ea⟩ := hA i hi h8i
  obtain ⟨b, hb, eb⟩ := hA j hj h8j
  have ti := o_tick hr ha ea
  have tj := o_tick hr hb eb
  have hm12 := hr.2.2.2.2.2.1
  have st : ∀ q, q < k_mc n → ¬ n 3 q 8 = -1 → n 3 q 4 = 1 ∨ n 3 q 4 = 2 := fun q hq h => by
    obtain ⟨-, -, -, -, g, -, -, g0, -⟩ := hr.2.2.2.2.1 q hq
    rcases g with g | g | g
    · exact absurd (g0 g) h
    · exact Or.inl g
    · exact Or.inr g
  have hlt : n 3 i 9 < n 3 j 9 ↔ b < a := by rw [Int32.lt_iff_toInt_lt, ti, tj]; omega
  have heq : n 3 i 9 = n 3 j 9 ↔ a = b := by rw [← Int32.toInt_inj, ti, tj]; omega
  have hij : nI i < nI j ↔ i < j := nI_ltI (by omega) (by omega)
  unfold k_cb o_K
  rw [ea, eb, nI_clamp (show a < 2 ^ 31 by omega), nI_clamp (show b < 2 ^ 31 by omega)]
  rcases st i hi h8i with s1 | s1 <;> rcases st j hj h8j with s2 | s2
  all_goals rw [s1, s2]
  · rw [if_pos rfl, if_pos rfl]
    by_cases h : n 3 i 9 = n 3 j 9
    · rw [if_pos h, decide_eq_true_iff, hij]; have := heq.mp h; omega
    · rw [if_neg h, decide_eq_true_iff, hlt]; have : ¬ a = b := fun z => h (heq.mpr z); omega
  · rw [if_neg (by decide), if_pos rfl, if_neg (by decide)]; simp; omega
  · rw [if_neg (by decide), if_neg (by decide), if_pos rfl]; simp; omega
  · rw [if_pos rfl]
    simp only [show ¬ (2 : Int32) = 1 by decide, if_false]
    by_cases h : n 3 i 9 = n 3 j 9
    · rw [if_pos h, decide_eq_true_iff, hij]; have := heq.mp h; omega
    · rw [if_neg h, decide_eq_true_iff, hlt]; have : ¬ a = b := fun z => h (heq.mpr z); omega
theorem o_fst_qm {n : ch_N} {w : Nat → Int32} (hr : r_N n w) (hA : o_age n) {c i0 : Nat} (hc : c < 2 ^ 31) (h : o_fst n c i0) : k_qm n (nI c) 0 = nI i0 := by
  obtain ⟨h1, h2, h3⟩ := h
  have ne : ∀ {i}, n 3 i 8 = nI c → ¬ n 3 i 8 = -1 := fun e z => nI_nm1 hc (e.symm.trans z)
  have hm12 := hr.2.2.2.2.2.1
  have erb : ∀ i, k_rb n i = nI (kf (fun j r => if n 3 j 8 = n 3 i 8 ∧ k_cb n j i = true then r + 1 else r) (k_mc n) (0 : Nat)) := fun i => kf_cnt_I (p := fun j => n 3 j 8 = n 3 i 8 ∧ k_cb n j i = true) _
  have p0 : k_rb n i0 = 0 := by
    rw [erb]
    rw [kf_cnt_F (p := fun j => n 3 j 8 = n 3 i0 8 ∧ k_cb n j i0 = true) (k_mc n) (fun i hi z => by
      have e8 : n 3 i 8 = nI c := z.1.trans h2
      have := (o_cb hr hA hi h1 (ne e8) (ne h2)).mp z.2
      have := h3 i hi e8
      omega)]
    rfl
  have p1 : ∀ i, i < k_mc n → n 3 i 8 = nI c → k_rb n i = 0 → i = i0 := fun i hi h8 hz => by
    rw [erb] at hz
    have l := kf_cnt_le (p := fun j => n 3 j 8 = n 3 i 8 ∧ k_cb n j i = true) (k_mc n)
    have e0 : kf (fun j r => if n 3 j 8 = n 3 i 8 ∧ k_cb n j i = true then r + 1 else r) (k_mc n) (0 : Nat) = 0 := by
      by_cases q : kf (fun j r => if n 3 j 8 = n 3 i 8 ∧ k_cb n j i = true then r + 1 else r) (k_mc n) (0 : Nat) = 0
      · exact q
      · exact absurd hz (nI_ne0 (by omega) (by omega))
    have z := kf_cnt_0 (p := fun j => n 3 j 8 = n 3 i 8 ∧ k_cb n j i = true) _ e0 i0 h1
    have z2 : ¬ k_cb n i0 i = true := fun y => z ⟨h2.trans h8.symm, y⟩
    rw [o_cb hr hA h1 hi (ne h2) (ne h8)] at z2
    have := h3 i hi h8
    omega
  unfold k_qm
  rcases kq_spec (fun i => decide (n 3 i 8 = nI c ∧ k_rb n i = 0)) (k_mc n) (k_mc n) (Nat.le_refl _) with ⟨-, z⟩ | ⟨r, -, hr2, hp, e, -⟩
  · exact absurd (decide_eq_true (p := n 3 i0 8 = nI c ∧ k_rb n i0 = 0) ⟨h2, p0⟩) (z i0 (by omega) h1)
  · rw [e]
    have hp' := of_decide_eq_true hp
    rw [p1 r hr2 hp'.1 hp'.2]
def o_PQ (n : ch_N) (c : Nat) (S : ch_S) (μ : ch_M) : Option Value → ch_S → ch_M → Prop := fun v' S' μ' => v' = some (.ref (S'.1 17 (o_W n c + 40) 0)) ∧ o_fr S μ S' μ' ∧ (∃ w, o_NW n w S' μ') ∧ S'.2.1 17 (o_W n c + 40) 0 ∧ (0 < o_W n c → μ' 17 (o_W n c + 40) 0 0 = k_qm n (nI c) 0)
set_option maxHeartbeats 400000 in
theorem c_X13_queue {l : Launch} {E : ch_E} {S : ch_S} {μ : ch_M} {n : ch_N} {w : Nat → Int32} (hN : o_NW n w S μ) (hA : o_age n) {c : Nat} (hc : c < k_cc n) : ch_C E l yX13_queue cX13_queue 7 (some (FieldType.array FieldType.int)) 2 1 12 S μ [.ref (S.1 16 22 0), .int (nI c)] (o_PQ n c S μ) := by
  refine ch_enter rfl rfl ?_
  intro X hl0 h hG hR hnm
  have h : ch_H X E RX13 cX13_queue 7 := h
  have hm12 := hN.m12
  have hc8 := hN.c8
  have hWl := o_W_le n c
  show ch_W X E 7 S μ 0 0 0 [(0, .ref (S.1 16 22 0)), (1, .int (nI c))] []
  refine ca_aload_nr h dX13_queue_0 rfl ?_
  refine ca_iload_n h dX13_queue_1 rfl ?_
  refine oa_v h hG ml_X13_99 (c_X13_waits hN) (ci := 13) rfl rfl rfl (hN.st.1 _ _ _ (by show _ ∧ _; omega)) rfl rfl rfl rfl ⟨by omega, by omega⟩ rfl dX13_queue_2 ?_
  rw [o_W_rq n c]
  refine oa_newI 17 (o_W n c + 40) 0 (n := o_W n c) h hG (ch_bs16 hN.st) (ch_kdn _) kw_67 rfl (by omega) ⟨by omega, by omega⟩ dX13_queue_5 ?_
  obtain ⟨S0, rfl⟩ : ∃ z, z = S := ⟨_, rfl⟩
  obtain ⟨μ0, rfl⟩ : ∃ z, z = μ := ⟨_, rfl⟩
  intro S μ hw
  rw [← o_nw_a hw (show 16 ≠ 17 by decide)]
  have hN := o_NW_nw hN hw (by decide) (by decide)
  have hf : o_fr S0 μ0 S μ := o_fr_nws hw (Or.inl rfl)
  refine ca_room (kc' := 1) (ks' := o_W n c) rfl (by omega) ?_
  refine ca_astore_n h dX13_queue_7 rfl ?_
  refine ca_iconst h dX13_queue_8 ik_0 ?_
  refine ca_istore_n h dX13_queue_9 rfl ?_
  refine ca_iconst h dX13_queue_10 ik_0 ?_
  refine ca_istore h dX13_queue_11 rfl ?_
  have loop_13 : ∀ (jj kd : Nat), kd + jj = 2 → ∀ (μ : ch_M) (hN : o_NW n w S μ) (hf : o_fr S0 μ0 S μ) (hq : o_qi n c (41 * kd) (0) (μ 17 (o_W n c + 40) 0 0)), ch_W X E 7 S μ 1 (o_W n c) 13 [(0, .ref (S.1 16 22 0)), (1, .int (nI c)), (2, .ref (S.1 17 (o_W n c + 40) 0)), (3, .int (nI (o_cn n c (41 * kd) 0))), (4, .int (nI kd))] [] := by
    intro jj
    induction jj with
    | zero =>
      intro kd hn μ hN hf hq
      have hn : kd = 2 := by omega
      refine ca_iload h dX13_queue_13 rfl ?_
      refine ca_iconst h dX13_queue_15 ik_2 ?_
      refine ca_icmp_ge (tgt := 115) h dX13_queue_16 (by decide) (fun c_16 => ?_) (fun c_16 => ?_)
      ·
        refine ca_aload_nr h dX13_queue_115 rfl ?_
        refine ca_widen (k := 1) (n := 12) (by omega) (by omega) ?_
        refine oa_aretI h hR dX13_queue_116 ?_
        refine ⟨rfl, hf, ⟨w, hN⟩, hw.1, fun h0 => ?_⟩
        rw [hn] at hq
        obtain ⟨i0, g1, g2⟩ := hq (by rw [o_cn_all (by decide)]; exact h0)
        rw [g2, o_fst_qm hN.rn hA (by omega) g1]
      · exact absurd c_16 (by rw [hn]; decide)
    | succ jj ih_13 =>
      intro kd hn μ hN hf hq
      have hn1 : kd < 2 := by omega
      refine ca_iload h dX13_queue_13 rfl ?_
      refine ca_iconst h dX13_queue_15 ik_2 ?_
      refine ca_icmp_ge (tgt := 115) h dX13_queue_16 (by decide) (fun c_16 => ?_) (fun c_16 => ?_)
      · exact absurd (nI_lt hn1 (by decide)) c_16
      ·
        refine ca_bipush h dX13_queue_19 bk_40 ?_
        refine ca_istore h dX13_queue_21 rfl ?_
        have hkd : kd < 2 := hn1
        have loop_23 : ∀ (jj q : Nat), q + jj = 41 → ∀ (x5 : Int32) (e5 : x5 = nI (41 - q) - 1) (μ : ch_M) (hN : o_NW n w S μ) (hf : o_fr S0 μ0 S μ) (hq : o_qi n c (41 * kd + q) (0) (μ 17 (o_W n c + 40) 0 0)), ch_W X E 7 S μ 1 (o_W n c) 23 [(0, .ref (S.1 16 22 0)), (1, .int (nI c)), (2, .ref (S.1 17 (o_W n c + 40) 0)), (3, .int (nI (o_cn n c (41 * kd + q) 0))), (4, .int (nI kd)), (5, .int x5)] [] := by
          intro jj
          induction jj with
          | zero =>
            intro q hn x5 e5 μ hN hf hq
            have hn : q = 41 := by omega
            subst e5
            have e0 : nI (41 - q) - 1 = -1 := by rw [hn]; decide
            rw [e0, hn]
            rw [hn] at hq
            refine ca_iload h dX13_queue_23 rfl ?_
            refine ca_if_lt (tgt := 109) h dX13_queue_25 (by decide) (fun c_25 => ?_) (fun c_25 => ?_)
            ·
              refine ca_iinc h dX13_queue_109 rfl ik_1 rfl ?_
              rw [show nI kd + 1 = nI (kd + 1) from nI_1 _]
              refine ca_goto (tgt := 13) h dX13_queue_112 (by decide) ?_
              refine ca_pick [1, 2, 3, 4, 0] rfl ?_
              rw [show 41 * kd + 41 = 41 * (kd + 1) by omega] at hq ⊢
              exact ih_13 (kd + 1) (by omega) _ hN hf hq
            · exact absurd (by decide) c_25
          | succ jj ih_23 =>
            intro q hn x5 e5 μ hN hf hq
            have hn1 : q < 41 := by omega
            subst e5
            obtain ⟨s, hs⟩ : ∃ s, 41 - q = s + 1 := ⟨41 - q - 1, by omega⟩
            have hs40 : s ≤ 40 := by omega
            have hsq : q = 40 - s := by omega
            have e0 : nI (41 - q) - 1 = nI s := by rw [hs, nI_pred]
            rw [e0]
            have e1 : nI s + (-1) = nI (41 - (q + 1)) - 1 := by rw [show 41 - (q + 1) = s by omega]; exact (Int32.sub_eq_add_neg _ _).symm
            refine ca_iload h dX13_queue_23 rfl ?_
            refine ca_if_lt (tgt := 109) h dX13_queue_25 (by decide) (fun c_25 => ?_) (fun c_25 => ?_)
            · exact absurd c_25 (nI_pos (by omega))
            ·
              refine ca_iconst h dX13_queue_28 ik_0 ?_
              refine ca_istore h dX13_queue_29 rfl ?_
              have loop_31 : ∀ (jj m : Nat), m + jj = k_mc n → ∀ (μ : ch_M) (hN : o_NW n w S μ) (hf : o_fr S0 μ0 S μ) (hq : o_qi n c (41 * kd + q) (m) (μ 17 (o_W n c + 40) 0 0)), ch_W X E 7 S μ 1 (o_W n c) 31 [(0, .ref (S.1 16 22 0)), (1, .int (nI c)), (2, .ref (S.1 17 (o_W n c + 40) 0)), (3, .int (nI (o_cn n c (41 * kd + q) m))), (4, .int (nI kd)), (5, .int (nI s)), (6, .int (nI m))] [] := by
                intro jj
                induction jj with
                | zero =>
                  intro m hn μ hN hf hq
                  have hn : m = k_mc n := by omega
                  refine ca_iload h dX13_queue_31 rfl ?_
                  refine ca_aload_nr h dX13_queue_33 rfl ?_
                  refine gi_X13_60 h (hN.st.1 _ _ _ (by show _ ∧ _; omega)) dX13_queue_34 ?_
                  refine ca_top (y := nI (k_mc n)) hN.many ?_
                  refine ca_icmp_ge (tgt := 103) h dX13_queue_37 (by decide) (fun c_37 => ?_) (fun c_37 => ?_)
                  ·
                    refine ca_iinc h dX13_queue_103 rfl ik_m1 rfl ?_
                    refine ca_goto (tgt := 23) h dX13_queue_106 (by decide) ?_
                    refine ca_pick [1, 2, 3, 4, 5, 0] rfl ?_
                    rw [hn] at hq ⊢
                    rw [← o_cn_next]
                    exact ih_23 (q + 1) (by omega) _ e1 μ hN hf (by unfold o_qi at hq ⊢; rw [← Nat.add_assoc, o_cn_next]; exact hq)
                  · exact absurd c_37 (by rw [hn]; exact Int32.lt_irrefl)
                | succ jj ih_31 =>
                  intro m hn μ hN hf hq
                  have hn1 : m < k_mc n := by omega
                  refine ca_iload h dX13_queue_31 rfl ?_
                  refine ca_aload_nr h dX13_queue_33 rfl ?_
                  refine gi_X13_60 h (hN.st.1 _ _ _ (by show _ ∧ _; omega)) dX13_queue_34 ?_
                  refine ca_top (y := nI (k_mc n)) hN.many ?_
                  refine ca_icmp_ge (tgt := 103) h dX13_queue_37 (by decide) (fun c_37 => ?_) (fun c_37 => ?_)
                  · exact absurd (nI_lt hn1 (by omega)) c_37
                  ·
                    refine ca_aload_nr h dX13_queue_40 rfl ?_
                    refine gr_X13_52 h (hN.st.1 _ _ _ (by show _ ∧ _; omega)) (hN.st.2.1 _ _ _ _ _ (by show _ ∧ _; omega) rfl) dX13_queue_41 ?_
                    show ch_W X E _ _ _ _ _ _ _ (.ref (S.1 16 25 0) :: _)
                    refine ca_iload h dX13_queue_44 rfl ?_
                    refine oa_aald h (j := m) rfl (by decide) (hN.st.1 _ _ _ (by show _ ∧ _; omega)) rfl (by omega) (by decide) (hN.st.2.1 _ _ _ _ _ (by show _ ∧ _; omega) (o_rt25 (by omega))) dX13_queue_46 ?_
                    show ch_W X E _ _ _ _ _ _ _ (.ref (S.1 16 23 m) :: _)
                    refine gi_X13_96 h (hN.st.1 _ _ _ (by show _ ∧ _; omega)) dX13_queue_47 ?_
                    refine ca_top (y := n 3 m 8) (hN.at8 (by omega)) ?_
                    refine ca_iload_n h dX13_queue_50 rfl ?_
                    refine ca_icmp_ne (tgt := 97) h dX13_queue_51 (by decide) (fun c_51 => ?_) (fun c_51 => ?_)
                    ·
                      refine ca_iinc h dX13_queue_97 rfl ik_1 rfl ?_
                      rw [show nI m + 1 = nI (m + 1) from nI_1 _]
                      refine ca_goto (tgt := 31) h dX13_queue_100 (by decide) ?_
                      refine ca_pick [1, 2, 3, 4, 5, 6, 0] rfl ?_
                      have e1 := o_cn_no (n := n) (c := c) (T := 41 * kd + q) (m := m) (fun z => c_51 z.1)
                      rw [← e1]
                      exact ih_31 (m + 1) (by omega) _ hN hf (by unfold o_qi at hq ⊢; rw [e1]; exact hq)
                    ·
                      have hne : ¬ n 3 m 8 = -1 := fun z => nI_nm1 (show c < 2 ^ 31 by omega) (c_51.symm.trans z)
                      obtain ⟨a, ha, ea⟩ := hA m hn1 hne
                      have h910 := (hN.rn.2.2.2.2.1 m hn1).2.2.2.1 hne
                      refine ca_aload_nr h dX13_queue_54 rfl ?_
                      refine gr_X13_52 h (hN.st.1 _ _ _ (by show _ ∧ _; omega)) (hN.st.2.1 _ _ _ _ _ (by show _ ∧ _; omega) rfl) dX13_queue_55 ?_
                      show ch_W X E _ _ _ _ _ _ _ (.ref (S.1 16 25 0) :: _)
                      refine ca_iload h dX13_queue_58 rfl ?_
                      refine oa_aald h (j := m) rfl (by decide) (hN.st.1 _ _ _ (by show _ ∧ _; omega)) rfl (by omega) (by decide) (hN.st.2.1 _ _ _ _ _ (by show _ ∧ _; omega) (o_rt25 (by omega))) dX13_queue_60 ?_
                      show ch_W X E _ _ _ _ _ _ _ (.ref (S.1 16 23 m) :: _)
                      refine gi_X13_102 h (hN.st.1 _ _ _ (by show _ ∧ _; omega)) dX13_queue_61 ?_
                      refine ca_top (y := (if n 3 m 4 = 1 then 0 else 1)) ((hN.mw hn1 (by decide)).trans h910.2) ?_
                      refine ca_iload h dX13_queue_64 rfl ?_
                      refine ca_icmp_ne (tgt := 97) h dX13_queue_66 (by decide) (fun c_66 => ?_) (fun c_66 => ?_)
                      ·
                        refine ca_iinc h dX13_queue_97 rfl ik_1 rfl ?_
                        rw [show nI m + 1 = nI (m + 1) from nI_1 _]
                        refine ca_goto (tgt := 31) h dX13_queue_100 (by decide) ?_
                        refine ca_pick [1, 2, 3, 4, 5, 6, 0] rfl ?_
                        have e1 := o_cn_no (n := n) (c := c) (T := 41 * kd + q) (m := m) (fun z => c_66 ((o_Kc ha ea hkd hs40).mpr (by rw [z.2]; omega)).1)
                        rw [← e1]
                        exact ih_31 (m + 1) (by omega) _ hN hf (by unfold o_qi at hq ⊢; rw [e1]; exact hq)
                      ·
                        refine ca_aload_nr h dX13_queue_69 rfl ?_
                        refine gi_X13_63 h (hN.st.1 _ _ _ (by show _ ∧ _; omega)) dX13_queue_70 ?_
                        refine ca_top (y := n 0 0 3) hN.clk ?_
                        refine ca_aload_nr h dX13_queue_73 rfl ?_
                        refine gr_X13_52 h (hN.st.1 _ _ _ (by show _ ∧ _; omega)) (hN.st.2.1 _ _ _ _ _ (by show _ ∧ _; omega) rfl) dX13_queue_74 ?_
                        show ch_W X E _ _ _ _ _ _ _ (.ref (S.1 16 25 0) :: _)
                        refine ca_iload h dX13_queue_77 rfl ?_
                        refine oa_aald h (j := m) rfl (by decide) (hN.st.1 _ _ _ (by show _ ∧ _; omega)) rfl (by omega) (by decide) (hN.st.2.1 _ _ _ _ _ (by show _ ∧ _; omega) (o_rt25 (by omega))) dX13_queue_79 ?_
                        show ch_W X E _ _ _ _ _ _ _ (.ref (S.1 16 23 m) :: _)
                        refine gi_X13_105 h (hN.st.1 _ _ _ (by show _ ∧ _; omega)) dX13_queue_80 ?_
                        refine ca_top (y := n 3 m 9) ((hN.mw hn1 (by decide)).trans h910.1) ?_
                        refine ca_isub h dX13_queue_83 ?_
                        refine ca_iload h dX13_queue_84 rfl ?_
                        refine ca_icmp_ne (tgt := 97) h dX13_queue_86 (by decide) (fun c_86 => ?_) (fun c_86 => ?_)
                        ·
                          refine ca_iinc h dX13_queue_97 rfl ik_1 rfl ?_
                          rw [show nI m + 1 = nI (m + 1) from nI_1 _]
                          refine ca_goto (tgt := 31) h dX13_queue_100 (by decide) ?_
                          refine ca_pick [1, 2, 3, 4, 5, 6, 0] rfl ?_
                          have e1 := o_cn_no (n := n) (c := c) (T := 41 * kd + q) (m := m) (fun z => c_86 ((o_Kc ha ea hkd hs40).mpr (by rw [z.2]; omega)).2)
                          rw [← e1]
                          exact ih_31 (m + 1) (by omega) _ hN hf (by unfold o_qi at hq ⊢; rw [e1]; exact hq)
                        ·
                          have hK : o_K n m = 41 * kd + q := by rw [(o_Kc ha ea hkd hs40).mp ⟨c_66, c_86⟩]; omega
                          obtain ⟨e1, hlt⟩ := o_cn_yes hn1 c_51 hK
                          have hfst : o_cn n c (41 * kd + q) m = 0 → o_fst n c m := o_qi_new hn1 c_51 hK
                          refine ca_aload_nr h dX13_queue_89 rfl ?_
                          refine ca_iload_n h dX13_queue_90 rfl ?_
                          refine ca_iinc h dX13_queue_91 rfl ik_1 rfl ?_
                          rw [show nI (o_cn n c (41 * kd + q) m) + 1 = nI ((o_cn n c (41 * kd + q) m) + 1) from nI_1 _]
                          refine ca_iload h dX13_queue_94 rfl ?_
                          refine oa_iastN h (j := (o_cn n c (41 * kd + q) m)) (ch_kdn _) hw.1 rfl hlt (by omega) dX13_queue_96 ?_
                          have hq : o_qi n c (41 * kd + q) (m + 1) (ch_st μ 17 (o_W n c + 40) 0 (o_cn n c (41 * kd + q) m) (nI m) 17 (o_W n c + 40) 0 0) := by
                            intro _
                            rw [ch_st_at]
                            by_cases z : o_cn n c (41 * kd + q) m = 0
                            · rw [if_pos ⟨rfl, rfl, rfl, z.symm⟩]; exact ⟨m, hfst z, rfl⟩
                            · rw [if_neg (fun y => z y.2.2.2.symm)]; exact hq (by omega)
                          have hN := o_NW_st (k := 17) (kd := o_W n c + 40) (i := 0) (j := o_cn n c (41 * kd + q) m) (v := nI m) hN (by decide) (by decide)
                          have hf := o_fr_sst (k := 17) (kd := o_W n c + 40) (i := 0) (j := o_cn n c (41 * kd + q) m) (v := nI m) hf (Or.inl rfl)
                          refine ca_iinc h dX13_queue_97 rfl ik_1 rfl ?_
                          rw [show nI m + 1 = nI (m + 1) from nI_1 _]
                          refine ca_goto (tgt := 31) h dX13_queue_100 (by decide) ?_
                          refine ca_pick [2, 3, 4, 1, 5, 6, 0] rfl ?_
                          rw [← e1]
                          exact ih_31 (m + 1) (by omega) _ hN hf hq
              refine ca_pick [1, 2, 3, 4, 5, 6, 0] rfl ?_
              exact loop_31 (k_mc n) 0 (by omega) μ hN hf hq
        refine ca_pick [1, 2, 3, 4, 5, 0] rfl ?_
        exact loop_23 41 0 rfl _ rfl μ hN hf hq
  refine ca_pick [3, 4, 2, 1, 0] rfl ?_
  have h13 := loop_13 2 0 rfl μ hN hf (by rw [Nat.mul_zero]; unfold o_qi; rw [o_cn_z]; exact fun z => absurd z (Nat.lt_irrefl _))
  rw [Nat.mul_zero, o_cn_z] at h13
  exact h13
