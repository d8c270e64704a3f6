/-! THE START, THE END -/
abbrev lw_PX (a b c : Nat) : Prop := (a = 15 ∧ 11 ≤ b ∧ b ≤ 21 ∧ c = 0) ∨ (a < 15 ∧ PN0 b c)
abbrev lw_PM (a b c : Nat) : Prop := a = 16 ∧ 22 ≤ b ∧ b ≤ 33 ∧ c = 0
theorem lw_V {a b c : Nat} (h : ch_V a b c) : lw_PX a b c ∨ lw_PM a b c := by
  unfold ch_V at h
  split at h
  all_goals first
    | exact h.elim
    | exact Or.inr ⟨h.1, by decide, by decide, h.2⟩
    | exact Or.inl (Or.inl ⟨h.1, by decide, by decide, h.2⟩)
    | exact Or.inl (Or.inr ⟨h.1, by unfold PN0; omega⟩)
theorem lw_clr {n : ch_N} (h0 : n 0 0 = i_0 0) (h2 : ∀ r, r < 64 → n 2 r = fun _ => 0) (h7 : n 7 0 = fun _ => 0) : k_ag n (k_clear n) := by
  refine ⟨fun j hj => ?_, fun c j _ _ => ?_, fun r j hr hj => ?_, fun i j _ _ => ?_, fun i _ => ⟨?_, ?_, ?_⟩, ?_⟩
  · rw [h0]
    unfold k_clear k_dfl
    rw [na_k (by decide)]
    unfold k_clrR
    rw [if_neg (by omega)]
    simp only [nw_at]
    rcases (show j = 0 ∨ j = 1 ∨ j = 2 ∨ j = 3 ∨ j = 4 ∨ j = 5 ∨ j = 6 ∨ j = 7 ∨ j = 8 ∨ j = 9 by omega) with rfl | rfl | rfl | rfl | rfl | rfl | rfl | rfl | rfl | rfl <;> simp [i_0]
  · unfold k_clear k_dfl
    rw [na_k (by decide)]
    unfold k_clrR
    rw [if_neg (by omega)]
    simp only [nw_k (show (1 : Nat) ≠ 0 by decide)]
  · rw [h2 r hr]
    unfold k_clear
    rw [na_k (by decide)]
    unfold k_clrR
    rw [if_pos ⟨rfl, hr, hj⟩]
  · rw [k_clear_k (by decide) (by decide)]
  · rw [k_clear_k (by decide) (by decide)]
  · rw [k_clear_k (by decide) (by decide)]
  · rw [k_clear_k (by decide) (by decide)]
  · rw [h7]
    funext t
    unfold k_clear
    rw [na_at, if_pos ⟨rfl, rfl⟩]
theorem lw_inv {μ : ch_M} (hX : ∀ a b c, lw_PX a b c → μ a b c = i_0 b) (m22 : μ 16 22 0 = up (fun _ => 0) 19 (-1)) (m23 : ∃ w, μ 16 23 0 = r_clrW w) : k_INV μ := by
  have hc : ∀ k, k < 15 → k_c8 (μ k) ∧ k_G (μ k) := fun k hk => by
    refine ⟨fun i c hi hc => ?_, fun m hm _ => ?_, fun r hr => ?_⟩
    · rw [hX k 5 i (Or.inr ⟨hk, by unfold PN0; omega⟩)]
      show ¬ (0 : Int32) < 0 ∧ Int32.toNatClampNeg 0 ≤ 8
      decide
    · rw [hX k 3 m (Or.inr ⟨hk, by unfold PN0; omega⟩)]; rfl
    · rw [hX k 2 r (Or.inr ⟨hk, by unfold PN0; omega⟩)]
      show ¬ (0 : Int32) < 0
      decide
  obtain ⟨w, hw⟩ := m23
  have o : ∀ b, 11 ≤ b → b ≤ 21 → μ 15 b 0 = i_0 b := fun b h1 h2 => hX 15 b 0 (Or.inl ⟨rfl, h1, h2, rfl⟩)
  have e7 : μ 15 11 0 7 = 0 := by rw [o 11 (by decide) (by decide)]; rfl
  have hn : r_N (μ 0) (μ 16 23 0) := by
    rw [hw]
    exact r_N_ag (lw_clr (hX 0 0 0 (Or.inr ⟨by decide, by unfold PN0; omega⟩)) (fun r hr => hX 0 2 r (Or.inr ⟨by decide, by unfold PN0; omega⟩)) (hX 0 7 0 (Or.inr ⟨by decide, by unfold PN0; omega⟩))) (hc 0 (by decide)).1 (r_D_clr (hc 0 (by decide)).1).1
  refine ⟨0, 0, by decide, by decide, ?_, ?_, ⟨hn, ⟨?_, ?_, fun z => ?_⟩, ⟨?_, by decide, fun i hi => absurd hi (Nat.not_lt_zero i)⟩, ⟨0, by decide, ?_, ?_, fun i hi => absurd hi (Nat.not_lt_zero i), ?_⟩⟩, hc⟩
  · rw [o 14 (by decide) (by decide)]; rfl
  · rw [o 14 (by decide) (by decide)]; rfl
  · rw [m22, e7]; rfl
  · exact Or.inl e7
  · rw [e7] at z; exact absurd z (by decide)
  · rw [m22]; rfl
  · rw [o 12 (by decide) (by decide)]; rfl
  · rw [m22]; rfl
  · rw [m22, o 12 (by decide) (by decide)]; rfl
theorem lw_init {E : ch_E} {S0 S2 S4 : ch_S} {μ0 μ2 μ4 : ch_M} {q1 q2 q3 : Nat} (h0 : ∀ a b c, ¬ S0.2.1 a b c) (h1 : NP (s_ad S0 15 11 0 q1) S2 (ch_z μ0 15 11 0) μ2 lw_PX NPT NPR) (h2 : NP (s_ad S2 16 22 0 q2) S4 (ch_z μ2 16 22 0) μ4 lw_PM (fun _ b _ => ¬ b = 22 ∧ ¬ b = 23) NPR) (hN : NM E S4 8) (m22 : μ4 16 22 0 = up (fun _ => 0) 19 (-1)) (m23 : ∃ w, μ4 16 23 0 = r_clrW w) : lw_S E (s_ad S4 17 34 0 q3) (ch_z μ4 17 34 0) q1 q2 q3 := by
  have v2 : ∀ {a b c}, lw_PX a b c → S2.2.1 a b c := fun z => NP_v h1 z
  have nx : ∀ {a b c}, 15 < a → ¬ lw_PX a b c := fun h z => z.elim (fun y => by have := y.1; omega) (fun y => by have := y.1; omega)
  have nS2 : ∀ {a b c}, 15 < a → ¬ S2.2.1 a b c := fun h => NP_nv h1 (fun z => z.elim (h0 _ _ _) (fun y => by have := y.1; omega)) (nx h)
  have n2 : ¬ S2.2.1 16 22 0 := nS2 (by decide)
  have n4 : ¬ S4.2.1 17 34 0 := NP_nv h2 (fun z => z.elim (nS2 (by decide)) (fun y => absurd y.1 (by decide))) (fun y => absurd y.1 (by decide))
  have v4 : ∀ {a b c}, lw_PX a b c → S4.2.1 a b c := fun z => (h2.1 _ _ _).mpr (Or.inl (Or.inl (v2 z)))
  have n17 : ∀ {a b c}, S4.2.1 a b c → ¬ (a = 17 ∧ b = 34 ∧ c = 0) := fun z e => by obtain ⟨rfl, rfl, rfl⟩ := e; exact n4 z
  have n16 : ∀ {a b c}, S2.2.1 a b c → ¬ (a = 16 ∧ b = 22 ∧ c = 0) := fun z e => by obtain ⟨rfl, rfl, rfl⟩ := e; exact n2 z
  have p16 : ∀ {a b c}, lw_PX a b c → ¬ lw_PM a b c := fun z e => z.elim (fun y => by have := y.1; have := e.1; omega) (fun y => by have := y.1; have := e.1; omega)
  have hX : ∀ a b c, lw_PX a b c → ch_z μ4 17 34 0 a b c = i_0 b := fun a b c z => (ch_z_n (n17 (v4 z))).trans ((h2.2.2.1 a b c (p16 z)).2.trans ((ch_z_n (n16 (v2 z))).trans (h1.2.2.2.1 a b c z trivial)))
  have e4 : ∀ {a b c}, S2.2.1 a b c → S4.1 a b c = S2.1 a b c := fun z => (h2.2.1 _ _ _ (Or.inl z)).trans (s_ad_n (n16 z))
  have e5 : ∀ {a b c}, S4.2.1 a b c → (s_ad S4 17 34 0 q3).1 a b c = S4.1 a b c := fun z => s_ad_n (n17 z)
  have x11 : lw_PX 15 11 0 := Or.inl ⟨rfl, by decide, by decide, rfl⟩
  have v22 : S4.2.1 16 22 0 := (h2.1 _ _ _).mpr (Or.inl (s_ad_v _ _ _ _ _))
  refine ⟨⟨fun a b c hv => Or.inl ((lw_V hv).elim v4 (fun z => (h2.1 _ _ _).mpr (Or.inr z))), fun k kd i j a hv hr => ?_, NM_ad (by decide) hN⟩, s_ad_v _ _ _ _ _, ?_, ?_, s_ad_s _ _ _ _ _, lw_inv hX ?_ ?_⟩
  · rcases lw_V hv with z | z
    · have r5 := h1.2.2.2.2 k kd i j a z trivial hr
      rw [s_ad_r (n17 (v4 z)), (h2.2.2.1 k kd i (p16 z)).1, s_ad_r (n16 (v2 z)), r5.2, e5 ((h2.1 _ _ _).mpr (Or.inl (Or.inl r5.1))), e4 r5.1]
    · have r5 := h2.2.2.2.2 k kd i j a z trivial hr
      rw [s_ad_r (n17 ((h2.1 _ _ _).mpr (Or.inr z))), r5.2, e5 r5.1]
  · rw [e5 (v4 x11), e4 (v2 x11), h1.2.1 15 11 0 (s_ad_v _ _ _ _ _), s_ad_s]
  · rw [e5 v22, h2.2.1 16 22 0 (s_ad_v _ _ _ _ _), s_ad_s]
  · rw [ch_z_n (by decide)]; exact m22
  · rw [ch_z_n (by decide)]; exact m23
set_option maxHeartbeats 1000000 in
theorem lw_all {X : ch_X} {E : ch_E} {b N : Nat} {xs : Nat → Int32} (K : lw_X X E b N xs) (hN : N ≤ 3072) (hbs : E.1 ≤ (x_s X).heap.size) (kend : ∀ S μ L, ch_W X E 7 S μ 601024 7293034 2450 L []) {S0 : ch_S} {μ0 : ch_M} (h0 : ∀ a b c, ¬ S0.2.1 a b c) : ch_W X E 7 S0 μ0 0 0 0 [(0, .ref b)] [] := by
  have K0 := K
  obtain ⟨h, hG, hX, hbl, hbA, hl⟩ := K
  refine ca_newO h (ci := 11) 15 11 0 hG (Or.inl hbs) rfl rfl li_X11 tyX11 tyX11_ok dvX11 rfl kw_27 kw_28 kw_1 ⟨by omega, by omega⟩ dL_law_0 (fun q1 => ?_)
  refine ca_dup h dL_law_3 rfl ?_
  refine ca_tR (s_ad_s S0 15 11 0 q1) ?_
  refine ca_ctI h hG kw_29 kw_30 kw_1 kw_31 ⟨by decide, by decide, by decide +kernel⟩ rfl (c_X11_init (s_ad_v _ _ _ _ _) (ch_z_0 _ _ _ _) (fun a b c z z' y => y.elim (h0 a b c) z')) rfl rfl ⟨by omega, by omega⟩ rfl dL_law_4 (fun S2 μ2 h1 => ?_)
  refine ca_astore_n h dL_law_7 rfl ?_
  refine ca_newO h (ci := 12) 16 22 0 hG (Or.inl hbs) rfl rfl li_X12 tyX12 tyX12_ok dvX12 rfl kw_1298 kw_1299 kw_11 ⟨by omega, by omega⟩ dL_law_8 (fun q2 => ?_)
  have nS2 : ∀ {a b c}, 15 < a → ¬ S2.2.1 a b c := fun h => NP_nv h1 (fun z => z.elim (h0 _ _ _) (fun y => by have := y.1; omega)) (fun z => z.elim (fun y => by have := y.1; omega) (fun y => by have := y.1; omega))
  refine ca_dup h dL_law_11 rfl ?_
  refine ca_tR (s_ad_s S2 16 22 0 q2) ?_
  refine ca_callI (As := []) h hG kw_1300 kw_1301 kw_11 kw_1302 ⟨by decide, by decide, by decide +kernel⟩ rfl (c_X12_init (s_ad_v _ _ _ _ _) (ch_z_0 _ _ _ _) (fun a b c z z' y => y.elim (nS2 (by have := z.1; omega)) z')) rfl rfl rfl rfl ⟨by omega, by omega⟩ rfl dL_law_12 (fun v S4 μ4 hp => ?_)
  obtain ⟨rfl, h2, hN8, m22, m23⟩ := hp
  refine ca_astore_n h dL_law_15 rfl ?_
  refine ca_iconst h dL_law_16 ik_1 ?_
  refine ca_newL h (n := 1) 17 34 0 hG (Or.inl hbs) rfl kw_1918 (by decide) (by decide) rfl ⟨by omega, by omega⟩ dL_law_17 (fun q3 => ?_)
  refine ca_astore_n h dL_law_19 rfl ?_
  refine ca_iconst h dL_law_20 ik_0 ?_
  refine ca_istore h dL_law_21 rfl ?_
  refine ca_pick [4, 3, 2, 1, 0] (L' := [(0, .ref b), (1, .ref q1), (2, .ref q2), (3, .ref q3), (4, .int (nI (6 * 0)))]) rfl ?_
  refine ca_widen (k := 2000 + 0) (n := 50000 + 6 * 0) (by omega) (by omega) ?_
  exact lw_loop K0 hN (c0 := 2000) (s0 := 50000) ⟨by omega, by omega⟩ kend (N / 6) 0 (Nat.zero_add _) _ _ (lw_init h0 h1 h2 hN8 m22 m23)
/-! THE CLAIM OUT OF ONE WALK OF THE LAW'S BODY. Your part is whole_start (and what it stands on); all else here is the same for every law, but numbers. -/
def R_law : String := "CellHandoverLaw"
def lw_P (b : Addr) (xs : List Int32) (args : Array Value) (s : State) : Prop := args = #[.ref b] ∧ s.IntsAt b xs ∧ xs.length ≤ 3072 ∧ (Jvm.Cond.and given_1 narrow_1).before args s = true
def lw_Q (_ : Array Value) (s : State) (o : Outcome) (t : State) : Prop := o = .returned (some (.int 1)) ∧ Framed s o t [] 601024 7293034
def lw_Z (below : List Frame) (a : Array Value) (s : State) : State → Prop := fun t => ∃ o, t.status = .running ∧ Ended t below o ∧ lw_Q a s o t
/-- the law's own end, with 1 on the stack, nothing written that was there before, its room as the claim has it -/
theorem lw_ret {p : Program} {l : Launch} {e : Env} {s : State} {m : MethodId} {below : List Frame} {meth : Method} {c : Code} {b : Nat} (hx : p.tables.exec = Jvm.exec) (hb : c.code = code) (hr : meth.sig.returnType = ret) (hlocks : meth.locks = false) {pc : Nat} {H : Heap} {ls : Array Slot} (hdg : decode code pc = .ok (.ireturn, 1)) : W p l e room_1 s m #[Value.ref b] below meth c H [] 601024 7293034 (lw_Z below #[Value.ref b] s) (F0 m pc ls [.int 1]) := by
  intro T hT X
  obtain ⟨fs, hret, hrun, hended, hW, hframe⟩ := X.leave (v := some (.int 1)) (hlocks := hlocks) (fun h => by rw [hr] at h; cases h)
  have hmeth' : T.vm.method? m = some meth := X.method'
  refine ⟨T.setFrames fs, ?_, .returned (some (.int 1)), hrun, hended, rfl, ⟨_, rfl⟩, hW, hframe⟩
  jvm_step X.here [X.here.top, hx, hb, hdg, hmeth', hr, ret, narrow_b1]
  (try refine ⟨rfl, ?_⟩); (try refine ⟨rfl, ?_⟩)
  first | (intro acts; rw [hret _ acts rfl rfl rfl]) | rw [hret _ _ rfl rfl rfl]
  exact Steps.refl _
/-- what holds at the law's entry: the machine, the code, the tables' words (any of lw_tbl by 'hts w (by decide +kernel)'), the script of L ints xs at the cell b, what the Statement gives of the start (any of its parts by flat_of_before) -/
def lw_At (p : Program) (s : State) (m : MethodId) (meth : Method) (c : Code) (b L : Nat) (xs : Nat → Int32) : Prop :=
  p.tables.exec = Jvm.exec ∧ c.code = code ∧ meth.sig.returnType = ret ∧ c.maxLocals = 7 ∧ s.vm.findClass R_law = some m.cls ∧ (∀ w ∈ lw_tbl, w.before #[Value.ref b] s = true) ∧ va_X b L xs s s.heap ∧ b < s.heap.size ∧ meth.locks = false ∧ (Jvm.Cond.and given_1 narrow_1).before #[Value.ref b] s = true
theorem whole_start {p : Program} {e : Env} {s : State} {m : MethodId} {below : List Frame} {meth : Method} {c : Code} (l : Launch) (hflags : l.flags = flags0) {b L : Nat} {xs : Nat → Int32} (hL : L ≤ 3072) (C0 : lw_At p s m meth c b L xs) : W p l e room_1 s m #[Value.ref b] below meth c s.heap [] 0 0 (lw_Z below #[Value.ref b] s) (entryFrame m ([Value.ref b] : List Value).toArray 7) := by
  obtain ⟨hx, hb, hr, hml, hown, hts, hX, hbl, hlocks, hgv⟩ := id C0
  obtain ⟨E, hE, hT⟩ := ch_given hts hgv
  have hl : l.stackTraces = false := by unfold Launch.stackTraces; rw [hflags]; decide
  have h : ch_H (p, l, e, room_1, s, m, #[.ref b], below, meth, c, lw_Z below #[.ref b] s) E RL cL_law 7 := ⟨hx, hb, hown, fun w hw => hts w (ch_GLt hw), hT, hlocks, hml⟩
  have hG : ch_G (p, l, e, room_1, s, m, #[.ref b], below, meth, c, lw_Z below #[.ref b] s) 800 601024 7293034 := ⟨Nat.le_of_ble_eq_true rfl, Nat.le_of_ble_eq_true rfl, Nat.le_of_ble_eq_true rfl, Nat.le_of_ble_eq_true rfl⟩
  have K : lw_X (p, l, e, room_1, s, m, #[.ref b], below, meth, c, lw_Z below #[.ref b] s) E b L xs := ⟨h, hG, hX, hbl, by rw [hE]; exact hbl, hl⟩
  have kend : ∀ S μ L', ch_W (p, l, e, room_1, s, m, #[.ref b], below, meth, c, lw_Z below #[.ref b] s) E 7 S μ 601024 7293034 2450 L' [] := by
    intro S μ L'
    refine ca_iconst h dL_law_2450 ik_1 ?_
    intro H locs ls hI hS hl'
    exact va_forget (fun q hq => by have h9 : E.1 ≤ q.base := hS.2.2 q hq; rw [hE] at h9; exact h9) (lw_ret hx hb hr hlocks dL_law_2451)
  have hle := lv_entry ([.ref b] : List Value) (n := 7) (Nat.le_of_ble_eq_true rfl)
  rw [lg_entry_eq]
  exact lw_all K hL (Nat.le_of_eq hE) kend (S0 := (fun _ _ _ => 0, fun _ _ _ => False, fun _ _ _ _ => none)) (μ0 := fun _ _ _ _ => 0) (fun _ _ _ z => z) s.heap [] _ ⟨fun _ _ _ z => z.elim, fun _ _ _ _ _ _ z => z.elim, fun _ _ _ z => z.elim, fun _ _ _ _ _ z => z.elim⟩ va_S.rf hle
set_option maxHeartbeats 4000000 in
theorem lw_walk (l : Launch) (hflags : l.flags = flags0) (b : Addr) (xs : List Int32) : MetFree l x (headSpec (Jvm.Cond.code x code maxLocals ret :: tables_1) room_1) (lw_P b xs) (fun _ _ _ _ _ => True) lw_Q := by
  refine MetFree.of_bodyS (code := code) (maxLocals := maxLocals) (ret := ret) (by decide) ?_ ?_
  · intro args s m h hn
    obtain ⟨meth, c, h1, h2, h3, h4, h5, h6, -, -⟩ := Cond.code_spec hn (atoms_spec (ws := Jvm.Cond.code x code maxLocals ret :: tables_1) h _ List.mem_cons_self)
    exact ⟨meth, c, h1, h2, h3, h4, h5, h6⟩
  · intro p e s m args below meth c s₁ B hml0 hP _
    obtain ⟨rfl, hx, hbd, hgv⟩ := hP
    obtain ⟨scr, harrAt, hlist, hof, hsmall⟩ := hx
    obtain ⟨hcb, hkn, -, -⟩ := State.arrayAt?_spec harrAt
    have hown : s.vm.findClass R_law = some m.cls := findClass_of_methodNamed B.named
    have hts0 : ∀ c ∈ (Jvm.Cond.code x code maxLocals ret :: tables_1), c.before #[Value.ref b] s = true := atoms_spec (ws := Jvm.Cond.code x code maxLocals ret :: tables_1) B.pre
    have hts : ∀ w ∈ lw_tbl, w.before #[Value.ref b] s = true := k2_hts_sels lw_privs (fun w hw => hts0 w (List.mem_cons_of_mem _ hw)) lw_privs_ok
    have hml : c.maxLocals = 7 := B.maxLocals_eq (hts0 _ List.mem_cons_self)
    have X₀ : Stand p l e room_1 s m #[Value.ref b] below meth c s₁ [] 0 0 := Stand.of_body B
    have hh0 : s₁.heap = s.heap := by rw [B.state]; rfl
    have hsz : scr.slots.size = xs.length := by rw [← Array.length_toList, hlist, List.length_map]
    have hval : ∀ j : Nat, j < xs.length → scr.slots[j]? = some (.int (xs.getD j 0)) := fun j hj => by
      rw [← Array.getElem?_toList, hlist]
      simp [hj]
    have hbl : b < s.heap.size := (Array.getElem?_eq_some_iff.mp hcb).1
    have hX : va_X b xs.length (fun j => xs.getD j 0) s s.heap := ⟨scr, hcb, hof, hkn, hsz, hval⟩
    have K : W p l e room_1 s m #[Value.ref b] below meth c s₁.heap [] 0 0 (lw_Z below #[Value.ref b] s) (entryFrame m ([Value.ref b] : List Value).toArray 7) := by
      rw [hh0]
      exact whole_start l hflags hbd ⟨B.exec, B.bytes, B.returns, hml, hown, hts, hX, hbl, B.notSynchronized, hgv⟩
    obtain ⟨t, a1, o, b1, b2, b3⟩ := K s₁ rfl X₀
    exact ⟨t, o, a1, b1, b2, b3⟩
theorem lw_pre_spec {args : Array Value} {s : State} (h : (Jvm.Cond.and given_1 narrow_1).before args s = true) (hr : rest_1_c.before args s = true) : ∃ (b : Addr) (xs : List Int32), lw_P b xs args s := by
  have hs := flat_of_before _ h
  have hq := flat_of_before _ hr
  have hc : (Cond.count 1).before args s = true := hs _ (by decide +kernel)
  have harr : (Cond.arrayOf (.arg 0) .int).before args s = true := hs _ (by decide +kernel)
  have hle : (Cond.le (.length (.arg 0)) (.int 3072)).before args s = true := hs _ (by decide +kernel)
  have hlen : (Cond.isInt (.length (.arg 0))).before args s = true := hq _ (by decide +kernel)
  have hall : (Cond.all (.arg 0) (.isInt (.elem (.arg 0) (.index 0)))).before args s = true := hq _ (by decide +kernel)
  obtain ⟨b, xs, hb, hx⟩ := State.ints_of_pre rfl harr hlen hall
  have hsm : xs.length < 2 ^ 31 := hx.choose_spec.2.2.2
  have hev : (Term.length (.arg 0)).eval args s none [] s = some (.int xs.length.toInt32) := hx.length_eval hb
  have hv := Cond.le_ints hev (show (Term.int 3072).eval args s none [] s = some (.int 3072) from rfl)
  have hd : xs.length.toInt32 ≤ 3072 := by
    simpa [Cond.before, Cond.holds, hv] using hle
  have hN : xs.length ≤ 3072 := (Int32.ofNat_le_ofNat hsm (by decide)).mp (show Int32.ofNat xs.length ≤ Int32.ofNat 3072 from hd)
  exact ⟨b, xs, Cond.one_arg hc (show args[0]? = some (.ref b) from hb), hx, hN, h⟩
theorem lw_comes (l : Launch) (hflags : l.flags = flags0) : Comes l x (Jvm.Cond.code x code maxLocals ret :: tables_1) room_1 (fun tb e args s => Calls_1 tb e args s ∧ rest_1 tb e args s ∧ Pre_1 tb e args s)
    (fun _ _ args s o t => lw_Q args s o t) := by
  intro p e ha hc hk s m args below hf hfit hheap happ hpre
  obtain ⟨b, xs, hP⟩ := lw_pre_spec hpre.2.2 hpre.2.1
  obtain ⟨k, o, h1, h2, h3, hQ⟩ := lw_walk l hflags b xs p e ha hc hk s m args below hf ((Spec.applies_iff_loose hf).mp happ).1 hP trivial
  exact ⟨k, o, h1, h2, h3, hQ⟩
theorem lw_frame {s t : State} {o : Outcome} {args : Array Value} (h : Framed s o t [] 601024 7293034) :
    Framed s o t (fieldLocs frame_1_writes args s ++ arrayLocs frame_1_arrays args s ++ staticLocs frame_1_statics s) 601024 7293034 := h
theorem lw_limb (L : Cond) (hL : ∀ (args : Array Value) (s t : State), L.after args s (.returned (some (.int 1))) t = true) :
    ArmFor flags0 classFile x code maxLocals ret World_1 tables_1 room_1 Calls_1 rest_1 Pre_1
      (fun tb e a s o t => postC L tb e a s o t ∧ Framed s o t (fieldLocs frame_1_writes a s ++ arrayLocs frame_1_arrays a s ++ staticLocs frame_1_statics s) 601024 7293034) := by
  intro l hflags _ _ p e ha hc hk s m args below hf hfit hheap happ hpre
  obtain ⟨k, o, h1, h2, h3, rfl, hF⟩ := lw_comes l hflags p e ha hc hk s m args below hf hfit hheap happ hpre
  exact ⟨k, _, h1, h2, h3, hL args s _, lw_frame hF⟩
theorem i_vc : Claimed_1_1 ∧ Claimed_1_2 := ⟨lw_limb limb_1_1 (fun args s t => by simp [limb_1_1, Cond.after, Cond.holds, Cond.value]), lw_limb limb_1_2 (fun args s t => Cond.after_iff.mpr (by
  first | (rw [show limb_1_2 = Cond.eq .result (.int 1) from rfl, Cond.eq_ints (x := 1) (y := 1) rfl rfl]; simp; done) | (simp [limb_1_2, Cond.value, Term.eval]; done)))⟩
