/-! NEW ARRAYS OF ARRAYS -/
def o_mn (k kd i kI kdI i0 N : Nat) (S : ch_S) (μ : ch_M) (S' : ch_S) (μ' : ch_M) : Prop :=
  S'.2.1 k kd i ∧ (∀ j, j < N → S'.2.1 kI kdI (i0 + j) ∧ S'.2.2 k kd i j = some (S'.1 kI kdI (i0 + j)) ∧ ∀ t, μ' kI kdI (i0 + j) t = 0) ∧
  ∀ a b c, ¬ (a = k ∧ b = kd ∧ c = i) → ¬ (a = kI ∧ b = kdI ∧ i0 ≤ c ∧ c < i0 + N) → S'.1 a b c = S.1 a b c ∧ (S'.2.1 a b c ↔ S.2.1 a b c) ∧ S'.2.2 a b c = S.2.2 a b c ∧ μ' a b c = μ a b c
theorem o_mn_I {E : ch_E} {S : ch_S} {μ : ch_M} {s0 : State} {cA comp : ClassId} {k kd i kI kdI i0 N K : Nat} (hne : ¬ (k = kI ∧ kd = kdI)) (hI : ch_I E S μ s0.heap) (hb : E.1 ≤ s0.heap.size) (hk : ch_kd kd = .inr (5, 1, N)) (hkI : ch_kd kdI = .inr (0, 0, K)) (eA : E.2.2.1 5 = cA) (eC : E.2.2.1 0 = comp) :
    ∀ n, n ≤ N → ∃ S' μ', ch_I E S' μ' (Jvm.Free.Multi.fill s0 cA comp N K (.int 0) n).heap ∧ o_mn k kd i kI kdI i0 n S μ S' μ' ∧ S'.1 k kd i = s0.heap.size ∧ S'.2.2 k kd i = (fun j => if j < n then some (s0.heap.size + 1 + j) else none) := by
  intro n
  induction n with
  | zero =>
    intro _
    refine ⟨s_ad S k kd i s0.heap.size, ch_z μ k kd i, ch_I_ad hI hb ?_ (fun q hq => Jvm.Free.Multi.fill_old s0 cA comp N K (.int 0) hq 0), ⟨s_ad_v _ _ _ _ _, fun j hj => absurd hj (Nat.not_lt_zero _), fun a b c e1 _ => ⟨s_ad_n e1, ⟨fun z => z.resolve_right e1, Or.inl⟩, s_ad_r e1, ch_z_n e1⟩⟩, s_ad_s _ _ _ _ _, ?_⟩
    · rw [ch_ct_q hk, eA]
      show (Jvm.Free.Multi.fill s0 cA comp N K (.int 0) 0).heap[s0.heap.size]? = some (vp_cell _ _)
      have ef : (s_ad S k kd i s0.heap.size).2.2 k kd i = fun _ => none := by funext j; exact s_ad_0 _ _ _ _ _ _
      rw [ef, vp_cell_q, (Jvm.Free.Multi.fill_facts s0 cA comp N K (.int 0) 0).2.1, vr_outer]
      simp
    · funext j
      rw [s_ad_0, if_neg (Nat.not_lt_zero _)]
  | succ n ih =>
    intro hn
    obtain ⟨S1, μ1, I1, m1, e1, r1⟩ := ih (by omega)
    have f1 := (Jvm.Free.Multi.fill_facts s0 cA comp N K (.int 0) n).1
    have f2 := (Jvm.Free.Multi.fill_facts s0 cA comp N K (.int 0) (n + 1)).2.1
    have ef : (Jvm.Free.Multi.fill s0 cA comp N K (.int 0) (n + 1)) = ((Jvm.Free.Multi.fill s0 cA comp N K (.int 0) n).pushCell (Jvm.Free.Multi.innerC comp K (.int 0))).setCell s0.heap.size (Jvm.Free.Multi.outerC cA N s0.heap.size (n + 1)) := rfl
    generalize hF : Jvm.Free.Multi.fill s0 cA comp N K (.int 0) n = F at I1 f1 ef
    have nk : ∀ c, ¬ (k = kI ∧ kd = kdI ∧ i = c) := fun c z => hne ⟨z.1, z.2.1⟩
    have I2 : ch_I E (s_ad S1 kI kdI (i0 + n) F.heap.size) (ch_z μ1 kI kdI (i0 + n)) (F.pushCell (Jvm.Free.Multi.innerC comp K (.int 0))).heap := by
      refine ch_I_ad I1 (by omega) ?_ (fun q hq => State.heap_pushCell_of_lt _ _ hq)
      rw [ch_ct_a hkI, eC, ch_z_0]
      show (F.pushCell (Jvm.Free.Multi.innerC comp K (.int 0))).heap[F.heap.size]? = some (vp_cell _ _)
      rw [vp_cell_i, State.heap_pushCell_size, ← arrV_new]
      rfl
    have eS2 : (s_ad S1 kI kdI (i0 + n) F.heap.size).1 k kd i = s0.heap.size := (s_ad_n (nk _)).trans e1
    have eR : (s_rf (s_ad S1 kI kdI (i0 + n) F.heap.size) k kd i n F.heap.size).2.2 k kd i = (fun j => if j < n + 1 then some (s0.heap.size + 1 + j) else none) := by
      funext j
      show (if k = k ∧ kd = kd ∧ i = i ∧ j = n then some F.heap.size else (s_ad S1 kI kdI (i0 + n) F.heap.size).2.2 k kd i j) = _
      rw [s_ad_r (nk _), r1]
      dsimp only
      by_cases e : j = n
      · subst e; rw [if_pos ⟨rfl, rfl, rfl, rfl⟩, if_pos (by omega), f1]
      · rw [if_neg (fun z => e z.2.2.2)]
        by_cases g : j < n
        · rw [if_pos g, if_pos (by omega)]
        · rw [if_neg g, if_neg (by omega)]
    have I3 : ch_I E (s_rf (s_ad S1 kI kdI (i0 + n) F.heap.size) k kd i n F.heap.size) (ch_z μ1 kI kdI (i0 + n)) (Jvm.Free.Multi.fill s0 cA comp N K (.int 0) (n + 1)).heap := by
      refine ch_I_rf I2 (Or.inl m1.1) ?_ (fun q hq => ?_)
      · rw [ch_ct_q hk, eA, eR, eS2]
        show (Jvm.Free.Multi.fill s0 cA comp N K (.int 0) (n + 1)).heap[s0.heap.size]? = some (vp_cell _ _)
        rw [vp_cell_q, f2, vr_outer]
      · rw [ef, State.heap_setCell_other (by rw [eS2] at hq; exact fun z => hq z.symm)]
    refine ⟨_, _, I3, ⟨Or.inl m1.1, fun j hj => ?_, fun a b c h1 h2 => ?_⟩, eS2, eR⟩
    · by_cases e : j = n
      · subst e
        refine ⟨Or.inr ⟨rfl, rfl, rfl⟩, ?_, fun t => by rw [ch_z_0]⟩
        rw [eR]
        show (if j < j + 1 then some (s0.heap.size + 1 + j) else none) = some ((s_ad S1 kI kdI (i0 + j) F.heap.size).1 kI kdI (i0 + j))
        rw [if_pos (by omega), s_ad_s, f1]
      · obtain ⟨g1, g2, g3⟩ := m1.2.1 j (by omega)
        have nj : ¬ (kI = kI ∧ kdI = kdI ∧ i0 + j = i0 + n) := fun z => e (by omega)
        refine ⟨Or.inl g1, ?_, fun t => by rw [ch_z_n nj]; exact g3 t⟩
        rw [eR]
        show (if j < n + 1 then some (s0.heap.size + 1 + j) else none) = some ((s_ad S1 kI kdI (i0 + n) F.heap.size).1 kI kdI (i0 + j))
        rw [s_ad_n nj, ← g2, r1]
        dsimp only
        rw [if_pos (by omega), if_pos (by omega)]
    · obtain ⟨g1, g2, g3, g4⟩ := m1.2.2 a b c h1 (fun z => h2 ⟨z.1, z.2.1, z.2.2.1, by omega⟩)
      have nj : ¬ (a = kI ∧ b = kdI ∧ c = i0 + n) := fun z => h2 ⟨z.1, z.2.1, by omega, by omega⟩
      refine ⟨(s_ad_n nj).trans g1, ⟨fun z => g2.mp (z.resolve_right nj), fun z => Or.inl (g2.mpr z)⟩, ?_, (ch_z_n nj).trans g4⟩
      funext d
      show (if a = k ∧ b = kd ∧ c = i ∧ d = n then some F.heap.size else (s_ad S1 kI kdI (i0 + n) F.heap.size).2.2 a b c d) = _
      rw [if_neg (fun z => h1 ⟨z.1, z.2.1, z.2.2.1⟩), s_ad_r nj, g3]
section MNA
variable {X : ch_X} {E : ch_E} {own : String} {cc : ByteArray} {nL : Nat} {S : ch_S} {μ : ch_M} {kc ks pc : Nat} {L : List (Nat × Value)} {st : List Value}
theorem oa_mna (k kd i kI kdI i0 : Nat) (hne : ¬ (k = kI ∧ kd = kdI)) (h : ch_H X E own cc nL) {D MC MS idx N K : Nat} {x y : Int32} (hG : ch_G X D MC MS) (hb : ch_bs X E S) (hk : ch_kd kd = .inr (5, 1, N)) (hkI : ch_kd kdI = .inr (0, 0, K)) (hcl : Cond.classLink own idx ("[" ++ (FieldType.array .int).toString) ∈ ch_GL) (hni : Cond.arrayClass (newarray.typeOf .int) ∈ ch_GL) (hx : x = nI N) (hy : y = nI K) (hN : N ≤ 1000) (hK : K ≤ 1000)
    (hkc : kc + (1 + N) ≤ MC ∧ ks + (N + N * K) ≤ MS) (hd : decode cc pc = .ok (.multianewarray idx 2, 4))
    (kk : ∀ (S' : ch_S) (μ' : ch_M), o_mn k kd i kI kdI i0 N S μ S' μ' → ch_W X E nL S' μ' (kc + 1 + N) (ks + N + N * K) (pc + 4) L (.ref (S'.1 k kd i) :: st)) : ch_W X E nL S μ kc ks pc L (.int y :: .int x :: st) := by
  subst hx
  subst hy
  have eN := nI_clamp (show N < 2 ^ 31 by omega)
  have eK := nI_clamp (show K < 2 ^ 31 by omega)
  intro H locs ls hI hS hl'
  have hts : ∀ w ∈ ch_GL, w.before (x_a X) (x_s X) = true := h.2.2.2.1
  have hbs := ch_bs_le hb hI hS
  intro T hT Xs
  obtain ⟨vm₁, cA, comp, -, fA, fC, -, -, X', step⟩ := Xs.multianewarray2F h.1 (ty := .int) h.2.2.1 (hts _ hcl) h.2.2.2.2.1.2.1.2 (hts _ hni) (g := F0 (x_m X) pc ls (.int (nI K) :: .int (nI N) :: st)) rfl (by rw [h.2.1]; exact hd) rfl (nI_pos (by omega)) (nI_pos (by omega)) (by rw [eN]; omega) (by rw [eK]; show K * 4 ≤ _; omega) (by rw [eK]; omega) rfl rfl (by rw [eN]; exact Nat.le_trans hkc.1 hG.2.2.1) (by rw [eN, eK]; exact Nat.le_trans hkc.2 hG.2.2.2)
  rw [eN, eK] at X' step
  have e5 : E.2.2.1 5 = cA := Option.some.inj (((ch_typ h.2.2.2.2.1 (t := 5) (by decide)).2 : (x_s X).vm.findClass ("[" ++ (FieldType.array .int).toString) = some (E.2.2.1 5)).symm.trans fA)
  have e0 : E.2.2.1 0 = comp := Option.some.inj (((ch_typ h.2.2.2.2.1 (t := 0) (by decide)).2).symm.trans fC)
  have hTh : (T.setVm vm₁).heap = H := hT
  obtain ⟨S', μ', I', m', q', -⟩ := o_mn_I (s0 := T.setVm vm₁) (i := i) (i0 := i0) (μ := μ) (S := S) hne (by rw [hTh]; exact hI) (by rw [hTh]; exact hbs) hk hkI e5 e0 N (Nat.le_refl _)
  have hold : ∀ x : Nat, x < H.size → (Jvm.Free.Multi.fill (T.setVm vm₁) cA comp N K (.int 0) N).heap[x]? = H[x]? := fun x hx => by
    have := Jvm.Free.Multi.fill_old (T.setVm vm₁) cA comp N K (.int 0) (a := x) (by rw [hTh]; exact hx) N
    rw [hTh] at this
    exact this
  have f1 := (Jvm.Free.Multi.fill_facts (T.setVm vm₁) cA comp N K (.int 0) N).1
  rw [hTh] at f1 q'
  have hk9 := kk S' μ' m'
  rw [q'] at hk9
  obtain ⟨t, a1, b1⟩ := hk9 _ locs ls I' ⟨by rw [f1]; have := hS.1; omega, fun x h1 h2 => (hold x (Nat.lt_of_lt_of_le h1 hS.1)).trans (hS.2.1 x h1 h2), hS.2.2⟩ hl' (Jvm.Free.Multi.fill (T.setVm vm₁) cA comp N K (.int 0) N) rfl X'
  refine ⟨t, step t ?_, b1⟩
  have e : T.heap.size = H.size := by rw [hT]
  rw [e]
  exact a1
end MNA
