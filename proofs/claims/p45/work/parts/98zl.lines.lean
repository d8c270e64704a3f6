/-! THE DRAWN NETWORK'S LINES, and the network that they make -/
theorem p_tx_app : ∀ (xs ys : List (Nat × List Nat)), p_tx (xs ++ ys) = p_tx xs ++ p_tx ys
  | [], _ => rfl
  | x :: xs, ys => by
    show p_w x.1 ++ (p_ns x.2 ++ p_tx (xs ++ ys)) = p_w x.1 ++ (p_ns x.2 ++ p_tx xs) ++ p_tx ys
    rw [p_tx_app xs ys]; simp
theorem p_tx_1 (x : Nat × List Nat) : p_tx [x] = p_w x.1 ++ p_ns x.2 := by
  show p_w x.1 ++ (p_ns x.2 ++ []) = _
  simp
theorem p_run_app : ∀ (xs ys : List (Nat × List Nat)) (n : ch_N), p_run (xs ++ ys) n = p_run ys (p_run xs n)
  | [], _, _ => rfl
  | x :: xs, ys, n => p_run_app xs ys (p_do n x)
theorem p_oks_app : ∀ (xs ys : List (Nat × List Nat)) (n : ch_N), p_oks xs n → p_oks ys (p_run xs n) → p_oks (xs ++ ys) n
  | [], _, _, _, h => h
  | x :: xs, ys, n, h, g => ⟨h.1, p_oks_app xs ys (p_do n x) h.2 g⟩
def p_v8 (v : Nat → Nat) : List Nat := [v 0, v 1, v 2, v 3, v 4, v 5, v 6, v 7]
def p_v6 (v : Nat → Nat) : List Nat := [v 0, v 1, v 2, v 3, v 4, v 5]
/-- the lines of n cells -/
def p_cs (cv : Nat → Nat → Nat) : Nat → List (Nat × List Nat)
  | 0 => []
  | n + 1 => p_cs cv n ++ [(1, p_v8 (cv n))]
/-- the pairs with a relation: of row a as far as b; of the rows as far as a -/
def p_pb (hy : Nat → Nat → Int32) (a : Nat) : Nat → List (Nat × Nat)
  | 0 => []
  | b + 1 => p_pb hy a b ++ (if hy a b < 0 then [] else [(a, b)])
def p_pa (hy : Nat → Nat → Int32) (C : Nat) : Nat → List (Nat × Nat)
  | 0 => []
  | a + 1 => p_pa hy C a ++ p_pb hy a C
def p_rl (hy : Nat → Nat → Int32) (x : Nat × Nat) : Nat × List Nat := (2, [x.1, x.2, Int32.toNatClampNeg (hy x.1 x.2)])
def p_all (cv : Nat → Nat → Nat) (hy : Nat → Nat → Int32) (sv : Nat → Nat) (C : Nat) : List (Nat × List Nat) := p_cs cv C ++ ((p_pa hy C C).map (p_rl hy) ++ [(3, p_v6 sv)])
theorem p_pb_m {hy : Nat → Nat → Int32} {a : Nat} (x : Nat × Nat) : ∀ N, x ∈ p_pb hy a N ↔ x.1 = a ∧ x.2 < N ∧ ¬ hy a x.2 < 0
  | 0 => by simp [p_pb]
  | N + 1 => by
    show x ∈ p_pb hy a N ++ (if hy a N < 0 then [] else [(a, N)]) ↔ _
    rw [List.mem_append, p_pb_m x N]
    obtain ⟨x1, x2⟩ := x
    dsimp only
    by_cases c : hy a N < 0
    · rw [if_pos c]
      constructor
      · rintro (⟨e, l, h⟩ | h)
        · exact ⟨e, by omega, h⟩
        · cases h
      · rintro ⟨e, l, h⟩
        refine Or.inl ⟨e, ?_, h⟩
        rcases Nat.lt_or_ge x2 N with z | z
        · exact z
        · exact absurd (show hy a x2 < 0 by rw [show x2 = N by omega]; exact c) h
    · rw [if_neg c]
      constructor
      · rintro (⟨e, l, h⟩ | h)
        · exact ⟨e, by omega, h⟩
        · simp at h
          exact ⟨h.1, by omega, by rw [h.2]; exact c⟩
      · rintro ⟨e, l, h⟩
        rcases Nat.lt_or_ge x2 N with z | z
        · exact Or.inl ⟨e, z, h⟩
        · right
          rw [e, show x2 = N by omega]
          simp
theorem p_pa_m {hy : Nat → Nat → Int32} {C : Nat} (x : Nat × Nat) : ∀ N, x ∈ p_pa hy C N ↔ x.1 < N ∧ x.2 < C ∧ ¬ hy x.1 x.2 < 0
  | 0 => by simp [p_pa]
  | N + 1 => by
    show x ∈ p_pa hy C N ++ p_pb hy N C ↔ _
    rw [List.mem_append, p_pa_m x N, p_pb_m x C]
    constructor
    · rintro (⟨a, b, c⟩ | ⟨a, b, c⟩)
      · exact ⟨by omega, b, c⟩
      · exact ⟨by omega, b, by rw [a]; exact c⟩
    · rintro ⟨a, b, c⟩
      rcases Nat.lt_or_ge x.1 N with z | z
      · exact Or.inl ⟨z, b, c⟩
      · have e : x.1 = N := by omega
        exact Or.inr ⟨e, b, by rw [← e]; exact c⟩
theorem p_pb_n {hy : Nat → Nat → Int32} {a : Nat} : ∀ N, (p_pb hy a N).Nodup
  | 0 => List.nodup_nil
  | N + 1 => by
    show (p_pb hy a N ++ (if hy a N < 0 then [] else [(a, N)])).Nodup
    split
    · rw [List.append_nil]; exact p_pb_n N
    · rw [List.nodup_append]
      refine ⟨p_pb_n N, by simp, fun x hx y hy' => ?_⟩
      simp at hy'
      subst hy'
      intro e
      subst e
      have := ((p_pb_m (hy := hy) (a := a) (a, N) N).mp hx).2.1
      dsimp only at this
      omega
theorem p_pa_n {hy : Nat → Nat → Int32} {C : Nat} : ∀ N, (p_pa hy C N).Nodup
  | 0 => List.nodup_nil
  | N + 1 => by
    show (p_pa hy C N ++ p_pb hy N C).Nodup
    rw [List.nodup_append]
    refine ⟨p_pa_n N, p_pb_n C, fun x hx y hy' e => ?_⟩
    subst e
    have h1 := ((p_pa_m (hy := hy) (C := C) x N).mp hx).1
    have h2 := ((p_pb_m (hy := hy) (a := N) x C).mp hy').1
    omega
theorem p_pb_l {hy : Nat → Nat → Int32} {a : Nat} (h : hy a a = -1) : ∀ N, (p_pb hy a N).length + (if a < N then 1 else 0) ≤ N
  | 0 => by simp [p_pb]
  | N + 1 => by
    have ih := p_pb_l h N
    show (p_pb hy a N ++ (if hy a N < 0 then [] else [(a, N)])).length + _ ≤ _
    rw [List.length_append]
    by_cases g : a = N
    · subst g
      rw [if_pos (by rw [h]; decide), if_pos (by omega)]
      rw [if_neg (by omega)] at ih
      simp
      omega
    · have : (if hy a N < 0 then ([] : List (Nat × Nat)) else [(a, N)]).length ≤ 1 := by split <;> simp
      generalize (if hy a N < 0 then ([] : List (Nat × Nat)) else [(a, N)]).length = z at this ⊢
      by_cases c : a < N
      · rw [if_pos c] at ih
        have e1 : (if a < N + 1 then 1 else 0) = 1 := if_pos (by omega)
        omega
      · rw [if_neg c] at ih
        have e1 : (if a < N + 1 then 1 else 0) = 0 := if_neg (by omega)
        omega
theorem p_pa_l {hy : Nat → Nat → Int32} {C : Nat} (h : ∀ a, hy a a = -1) : ∀ N, N ≤ C → (p_pa hy C N).length ≤ N * (C - 1)
  | 0, _ => by simp [p_pa]
  | N + 1, hN => by
    have ih := p_pa_l (C := C) h N (by omega)
    have := p_pb_l (h N) C
    rw [if_pos (by omega)] at this
    show (p_pa hy C N ++ p_pb hy N C).length ≤ _
    rw [List.length_append, Nat.succ_mul]
    omega
theorem p_st_at (kd i : Nat) : ∀ (vs : List Nat) (f : Nat) (n : ch_N) (a b c : Nat), p_st kd i f vs n a b c = if a = kd ∧ b = i ∧ f ≤ c ∧ c < f + vs.length then nI (vs.getD (c - f) 0) else n a b c
  | [], f, n, a, b, c => by rw [if_neg (fun z => by have := z.2.2; simp at this; omega)]; rfl
  | v :: vs, f, n, a, b, c => by
    show p_st kd i (f + 1) vs (nw n kd i f (nI v)) a b c = _
    rw [p_st_at kd i vs (f + 1), nw_at]
    by_cases h : a = kd ∧ b = i ∧ f ≤ c ∧ c < f + (v :: vs).length
    · rw [if_pos h]
      have hl : (v :: vs).length = vs.length + 1 := rfl
      rw [hl] at h
      by_cases g : c = f
      · subst g
        rw [if_neg (by omega), if_pos ⟨h.1, h.2.1, rfl⟩, Nat.sub_self]
        rfl
      · rw [if_pos (by omega), show c - f = (c - (f + 1)) + 1 by omega]
        rfl
    · rw [if_neg h]
      have hl : (v :: vs).length = vs.length + 1 := rfl
      rw [hl] at h
      rw [if_neg (by omega), if_neg (by omega)]
/-- the cells' lines -/
theorem p_cs_run {cv : Nat → Nat → Nat} (hb : ∀ c, p_b8 (cv c)) {n : ch_N} (h0 : n 0 0 0 = 0) : ∀ C, C ≤ 8 → p_oks (p_cs cv C) n ∧ p_run (p_cs cv C) n 0 0 0 = nI C ∧ (∀ c f, c < C → f < 8 → p_run (p_cs cv C) n 1 c f = nI (cv c f)) ∧ (∀ c, c < C → p_run (p_cs cv C) n 1 c 8 = 0) ∧ (∀ j, j ≠ 0 → p_run (p_cs cv C) n 0 0 j = n 0 0 j) ∧ (∀ kd, 2 ≤ kd → p_run (p_cs cv C) n kd = n kd)
  | 0, _ => ⟨trivial, h0, fun _ _ h => absurd h (Nat.not_lt_zero _), fun _ h => absurd h (Nat.not_lt_zero _), fun _ _ => rfl, fun _ _ => rfl⟩
  | C + 1, hC => by
    obtain ⟨i1, i2, i3, i4, i5, i6⟩ := p_cs_run hb h0 C (by omega)
    have er : p_run (p_cs cv (C + 1)) n = p_do (p_run (p_cs cv C) n) (1, p_v8 (cv C)) := p_run_app (p_cs cv C) [(1, p_v8 (cv C))] n
    rw [er]
    have eo : p_oks (p_cs cv (C + 1)) n := p_oks_app (p_cs cv C) [(1, p_v8 (cv C))] n i1 ⟨Or.inl ⟨rfl, ⟨C, by omega, i2⟩, cv C, rfl, hb C⟩, trivial⟩
    generalize p_run (p_cs cv C) n = m at i2 i3 i4 i5 i6 ⊢
    have ec : Int32.toNatClampNeg (m 0 0 0) = C := by rw [i2, nI_clamp (by omega)]
    have ed : p_do m (1, p_v8 (cv C)) = nw (nw (p_st 1 C 0 (p_v8 (cv C)) m) 1 C 8 0) 0 0 0 (m 0 0 0 + 1) := by
      unfold p_do
      rw [if_pos rfl, ec]
    rw [ed]
    have el : (p_v8 (cv C)).length = 8 := rfl
    refine ⟨eo, by rw [nw_at, if_pos ⟨rfl, rfl, rfl⟩, i2, nI_1], fun c f hc hf => ?_, fun c hc => ?_, fun j hj => by rw [nw_at, if_neg (by omega), nw_k (by decide), p_st_ne (by decide)]; exact i5 j hj, fun kd hk => by rw [nw_k (by omega), nw_k (by omega), p_st_ne (by omega)]; exact i6 kd hk⟩
    · rw [nw_k (by decide), nw_at, if_neg (by omega), p_st_at, el]
      by_cases g : c = C
      · subst g
        rw [if_pos ⟨rfl, rfl, Nat.zero_le _, by omega⟩]
        rcases (show f = 0 ∨ f = 1 ∨ f = 2 ∨ f = 3 ∨ f = 4 ∨ f = 5 ∨ f = 6 ∨ f = 7 by omega) with rfl | rfl | rfl | rfl | rfl | rfl | rfl | rfl <;> rfl
      · rw [if_neg (by omega)]; exact i3 c f (by omega) hf
    · rw [nw_k (by decide), nw_at]
      by_cases g : c = C
      · rw [if_pos ⟨rfl, g, rfl⟩]
      · rw [if_neg (by omega), p_st_at, if_neg (by omega)]; exact i4 c (by omega)
theorem rx_inj {a b a' b' : Nat} (hb : b < 8) (hb' : b' < 8) (h : 8 * a + b = 8 * a' + b') : a = a' ∧ b = b' := ⟨by omega, by omega⟩
/-- the relations' lines -/
theorem p_rl_run {hy : Nat → Nat → Int32} {C : Nat} (hC : C ≤ 8) (hk : o_hyk C hy) : ∀ (l : List (Nat × Nat)) (n : ch_N) (R : Nat), l.Nodup → (∀ x, x ∈ l → x.1 < C ∧ x.2 < C ∧ ¬ hy x.1 x.2 < 0 ∧ n 2 (8 * x.1 + x.2) 0 = 0) → n 0 0 0 = nI C → n 0 0 1 = nI R → R + l.length ≤ 24 →
    p_oks (l.map (p_rl hy)) n ∧ p_run (l.map (p_rl hy)) n 0 0 1 = nI (R + l.length) ∧ (∀ a b f, a < 8 → b < 8 → p_run (l.map (p_rl hy)) n 2 (8 * a + b) f = if (a, b) ∈ l ∧ f = 0 then 1 else if (a, b) ∈ l ∧ f = 1 then hy a b else n 2 (8 * a + b) f) ∧ (∀ j, j ≠ 1 → p_run (l.map (p_rl hy)) n 0 0 j = n 0 0 j) ∧ (∀ kd, kd ≠ 0 → kd ≠ 2 → p_run (l.map (p_rl hy)) n kd = n kd)
  | [], n, R, _, _, _, h1, _ => ⟨trivial, h1, fun a b f _ _ => by rw [if_neg (by simp), if_neg (by simp)]; rfl, fun _ _ => rfl, fun _ _ _ => rfl⟩
  | x :: l, n, R, hn, hx, h0, h1, hR => by
    have hR' : R + (l.length + 1) ≤ 24 := hR
    obtain ⟨hx1, hx2, hx3, hx4⟩ := hx x (by simp)
    obtain ⟨-, -, hne, d, hd, ed⟩ : x.1 < C ∧ x.2 < C ∧ x.1 ≠ x.2 ∧ ∃ d, d ≤ 30 ∧ hy x.1 x.2 = nI d := (hk x.1 x.2).resolve_left (fun z => hx3 (by rw [z]; decide))
    have ec : Int32.toNatClampNeg (hy x.1 x.2) = d := by rw [ed, nI_clamp (by omega)]
    obtain ⟨nx, nl⟩ := List.nodup_cons.mp hn
    have edo : p_do n (p_rl hy x) = nw (nw (nw n 2 (8 * x.1 + x.2) 1 (hy x.1 x.2)) 2 (8 * x.1 + x.2) 0 1) 0 0 1 (n 0 0 1 + 1) := by
      unfold p_do p_rl
      dsimp only
      rw [if_neg (show ¬ (2 : Nat) = 1 by decide), if_pos rfl]
      show nw (nw (nw n 2 (8 * x.1 + x.2) 1 (nI (Int32.toNatClampNeg (hy x.1 x.2)))) 2 (8 * x.1 + x.2) 0 1) 0 0 1 (n 0 0 1 + 1) = _
      rw [ec, ed]
    have ok1 : p_ok n (p_rl hy x) := Or.inr (Or.inl ⟨rfl, C, x.1, x.2, d, R, h0, hC, h1, by omega, by unfold p_rl; rw [ec], hx1, hx2, hne, hd, hx4⟩)
    have at2 : ∀ r f, p_do n (p_rl hy x) 2 r f = if r = 8 * x.1 + x.2 ∧ f = 0 then 1 else if r = 8 * x.1 + x.2 ∧ f = 1 then hy x.1 x.2 else n 2 r f := fun r f => by
      rw [edo, nw_k (by decide), nw_at, nw_at]
      simp only [true_and]
    obtain ⟨i1, i2, i3, i4, i5⟩ := p_rl_run hC hk l (p_do n (p_rl hy x)) (R + 1) nl (fun y hy' => by
      obtain ⟨y1, y2, y3, y4⟩ := hx y (by simp [hy'])
      refine ⟨y1, y2, y3, ?_⟩
      have hxy : ¬ 8 * y.1 + y.2 = 8 * x.1 + x.2 := fun z => by
        obtain ⟨e1, e2⟩ := rx_inj (by omega) (by omega) z
        exact nx (by rw [← show y = x from Prod.ext e1 e2]; exact hy')
      rw [at2, if_neg (fun z => hxy z.1), if_neg (fun z => hxy z.1)]
      exact y4) (by rw [edo, nw_at, if_neg (by decide), nw_k (by decide), nw_k (by decide)]; exact h0) (by rw [edo, nw_at, if_pos ⟨rfl, rfl, rfl⟩, h1, nI_1]) (by omega)
    refine ⟨⟨ok1, i1⟩, ?_, fun a b f ha hb => ?_, fun j hj => ?_, fun kd k0 k2 => ?_⟩
    · show p_run (l.map (p_rl hy)) (p_do n (p_rl hy x)) 0 0 1 = nI (R + (l.length + 1))
      rw [i2]; congr 1; omega
    · show p_run (l.map (p_rl hy)) (p_do n (p_rl hy x)) 2 (8 * a + b) f = _
      rw [i3 a b f ha hb]
      by_cases g : (a, b) = x
      · subst g
        have m0 : ¬ (a, b) ∈ l := nx
        have m1 : (a, b) ∈ (a, b) :: l := by simp
        rw [if_neg (fun z => m0 z.1), if_neg (fun z => m0 z.1), at2]
        simp only [m1, true_and]
      · have hm : (a, b) ∈ x :: l ↔ (a, b) ∈ l := by simp [g]
        have hr : ¬ 8 * a + b = 8 * x.1 + x.2 := fun z => by
          obtain ⟨e1, e2⟩ := rx_inj hb (by omega) z
          exact g (Prod.ext e1 e2)
        have e2 : p_do n (p_rl hy x) 2 (8 * a + b) f = n 2 (8 * a + b) f := by rw [at2, if_neg (fun z => hr z.1), if_neg (fun z => hr z.1)]
        rw [e2]
        simp only [hm]
    · show p_run (l.map (p_rl hy)) (p_do n (p_rl hy x)) 0 0 j = _
      rw [i4 j hj, edo, nw_at, if_neg (by omega), nw_k (by decide), nw_k (by decide)]
    · show p_run (l.map (p_rl hy)) (p_do n (p_rl hy x)) kd = _
      rw [i5 kd k0 k2, edo, nw_k k0, nw_k k2, nw_k k2]
