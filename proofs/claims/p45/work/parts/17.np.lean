/-! CONSTRUCTORS: what has been made so far -/
/-- what a new object holds at last -/
def i_0 (b : Nat) : Nat → Int32 := match b with
  | 0 => fun j => if j = 4 then 4 else if j = 5 then 2 else if j = 6 then 5 else if j = 7 then 4 else if j = 8 then 5 else if j = 9 then 3 else 0
  | 3 => fun j => if j = 5 ∨ j = 8 then -1 else 0
  | 12 => fun j => if j = 2 then -1 else 0
  | _ => fun _ => 0
def NP (S0 S : ch_S) (μ0 μ : ch_M) (D Z : Nat → Nat → Nat → Prop) (R : Nat → Nat → Nat → Nat → Prop) : Prop :=
  (∀ a b c, S.2.1 a b c ↔ S0.2.1 a b c ∨ D a b c) ∧ (∀ a b c, S0.2.1 a b c → S.1 a b c = S0.1 a b c) ∧ (∀ a b c, ¬ D a b c → S.2.2 a b c = S0.2.2 a b c ∧ μ a b c = μ0 a b c) ∧
  (∀ a b c, D a b c → Z a b c → μ a b c = i_0 b) ∧ ∀ a b c j r, D a b c → R a b c j → ch_rt a b c j = some r → S.2.1 r.1 r.2.1 r.2.2 ∧ S.2.2 a b c j = some (S.1 r.1 r.2.1 r.2.2)
abbrev NPT : Nat → Nat → Nat → Prop := fun _ _ _ => True
abbrev NPR : Nat → Nat → Nat → Nat → Prop := fun _ _ _ _ => True
def c_Post (S : ch_S) (μ : ch_M) (P : Nat → Nat → Nat → Prop) : Option Value → ch_S → ch_M → Prop := fun v S' μ' => v = none ∧ NP S S' μ μ' P NPT NPR
theorem ch_rt_j {a b c j : Nat} {r : Nat × Nat × Nat} (h : ch_rt a b c j = some r) : (b = 0 ∧ 10 ≤ j ∧ j ≤ 16) ∨ (b = 3 ∧ 10 ≤ j ∧ j ≤ 12) ∨ (b = 8 ∧ j < 8) ∨ (b = 9 ∧ j < 64) ∨ (b = 10 ∧ j < 12) ∨ (b = 11 ∧ j ≤ 6) ∨ (b = 12 ∧ j = 3) ∨ (b = 14 ∧ j = 2) ∨ (b = 15 ∧ j < 12) ∨ (b = 16 ∧ j = 0) ∨ (b = 17 ∧ (j = 2 ∨ j = 3)) ∨ (b = 20 ∧ j = 0) ∨ (b = 22 ∧ (j ≤ 4 ∨ j = 8 ∨ j = 9 ∨ j = 11 ∨ (21 ≤ j ∧ j ≤ 23))) := by
  unfold ch_rt at h
  split at h
  all_goals first
    | (split at h <;> first | omega | cases h)
    | cases h
theorem NP_0 {S : ch_S} {μ : ch_M} {k kd i : Nat} (hv : S.2.1 k kd i) : NP S S μ μ (fun a b c => a = k ∧ b = kd ∧ c = i) (fun _ _ _ => False) (fun _ _ _ _ => False) :=
  ⟨fun a b c => ⟨Or.inl, fun z => z.elim id (fun e => by obtain ⟨rfl, rfl, rfl⟩ := e; exact hv)⟩, fun _ _ _ _ => rfl, fun _ _ _ _ => ⟨rfl, rfl⟩, fun _ _ _ _ z => z.elim, fun _ _ _ _ _ _ z => z.elim⟩
theorem NP_e {S : ch_S} {μ : ch_M} : NP S S μ μ (fun _ _ _ => False) NPT NPR :=
  ⟨fun a b c => ⟨Or.inl, fun z => z.elim id (fun e => e.elim)⟩, fun _ _ _ _ => rfl, fun _ _ _ _ => ⟨rfl, rfl⟩, fun _ _ _ z => z.elim, fun _ _ _ _ _ z => z.elim⟩
theorem NP_v {S0 S : ch_S} {μ0 μ : ch_M} {D Z : Nat → Nat → Nat → Prop} {R : Nat → Nat → Nat → Nat → Prop} (h : NP S0 S μ0 μ D Z R) {a b c : Nat} (hd : D a b c) : S.2.1 a b c := (h.1 a b c).mpr (Or.inr hd)
theorem NP_nv {S0 S : ch_S} {μ0 μ : ch_M} {D Z : Nat → Nat → Nat → Prop} {R : Nat → Nat → Nat → Nat → Prop} (h : NP S0 S μ0 μ D Z R) {a b c : Nat} (h0 : ¬ S0.2.1 a b c) (hd : ¬ D a b c) : ¬ S.2.1 a b c := fun z => ((h.1 a b c).mp z).elim h0 hd
theorem NP_w {S0 S : ch_S} {μ0 μ : ch_M} {D Z : Nat → Nat → Nat → Prop} {R : Nat → Nat → Nat → Nat → Prop} (h : NP S0 S μ0 μ D Z R) {D' Z' : Nat → Nat → Nat → Prop} {R' : Nat → Nat → Nat → Nat → Prop} (hD : ∀ a b c, D' a b c ↔ D a b c) (hZ : ∀ a b c, D a b c → Z' a b c → Z a b c) (hR : ∀ a b c j r, D a b c → R' a b c j → ch_rt a b c j = some r → R a b c j) : NP S0 S μ0 μ D' Z' R' :=
  ⟨fun a b c => by rw [hD]; exact h.1 a b c, h.2.1, fun a b c z => h.2.2.1 a b c (fun y => z ((hD a b c).mpr y)), fun a b c d z => h.2.2.2.1 a b c ((hD a b c).mp d) (hZ a b c ((hD a b c).mp d) z), fun a b c j r d z e => h.2.2.2.2 a b c j r ((hD a b c).mp d) (hR a b c j r ((hD a b c).mp d) z e) e⟩
theorem NP_new {S0 S : ch_S} {μ0 μ : ch_M} {D Z : Nat → Nat → Nat → Prop} {R : Nat → Nat → Nat → Nat → Prop} {k kd i q : Nat} (h : NP S0 S μ0 μ D Z R) (h0 : ¬ S0.2.1 k kd i) (hn : ¬ D k kd i) {D' Z' : Nat → Nat → Nat → Prop} {R' : Nat → Nat → Nat → Nat → Prop}
    (hD : ∀ a b c, D' a b c ↔ D a b c ∨ (a = k ∧ b = kd ∧ c = i)) (hZ : ∀ a b c, D a b c → Z' a b c → Z a b c) (hz : Z' k kd i → i_0 kd = fun _ => 0) (hR : ∀ a b c j r, D a b c → R' a b c j → ch_rt a b c j = some r → R a b c j) (hr : ∀ j r, R' k kd i j → ch_rt k kd i j = some r → False) :
    NP S0 (s_ad S k kd i q) μ0 (ch_z μ k kd i) D' Z' R' ∧ ∀ a b c v, S.2.1 a b c → S.1 a b c = v → (s_ad S k kd i q).1 a b c = v := by
  have hnS := NP_nv h h0 hn
  have ne : ∀ {a b c}, S.2.1 a b c → ¬ (a = k ∧ b = kd ∧ c = i) := fun hv e => by obtain ⟨rfl, rfl, rfl⟩ := e; exact hnS hv
  refine ⟨⟨fun a b c => ?_, fun a b c hv => ?_, fun a b c hd => ?_, fun a b c hd hz' => ?_, fun a b c j r hd hr' he => ?_⟩, fun a b c v hv e => (s_ad_n (ne hv)).trans e⟩
  · rw [hD]
    show S.2.1 a b c ∨ _ ↔ _
    rw [h.1 a b c, or_assoc]
  · have hv' : S.2.1 a b c := (h.1 a b c).mpr (Or.inl hv)
    rw [s_ad_n (ne hv')]; exact h.2.1 a b c hv
  · have hd' : ¬ D a b c := fun z => hd ((hD a b c).mpr (Or.inl z))
    have e : ¬ (a = k ∧ b = kd ∧ c = i) := fun z => hd ((hD a b c).mpr (Or.inr z))
    rw [s_ad_r e, ch_z_n e]; exact h.2.2.1 a b c hd'
  · by_cases e : a = k ∧ b = kd ∧ c = i
    · obtain ⟨rfl, rfl, rfl⟩ := e
      rw [ch_z_0, hz hz']
    · have hd' : D a b c := ((hD a b c).mp hd).resolve_right e
      rw [ch_z_n e]; exact h.2.2.2.1 a b c hd' (hZ a b c hd' hz')
  · by_cases e : a = k ∧ b = kd ∧ c = i
    · obtain ⟨rfl, rfl, rfl⟩ := e
      exact (hr j r hr' he).elim
    · have hd' : D a b c := ((hD a b c).mp hd).resolve_right e
      have h5 := h.2.2.2.2 a b c j r hd' (hR a b c j r hd' hr' he) he
      rw [s_ad_r e, s_ad_n (ne h5.1)]
      exact ⟨Or.inl h5.1, h5.2⟩
theorem NP_call {S0 S S' : ch_S} {μ0 μ μ' : ch_M} {D Z P : Nat → Nat → Nat → Prop} {R : Nat → Nat → Nat → Nat → Prop} (h : NP S0 S μ0 μ D Z R) (hp : NP S S' μ μ' P NPT NPR) {D' Z' : Nat → Nat → Nat → Prop} {R' : Nat → Nat → Nat → Nat → Prop}
    (hD : ∀ a b c, D' a b c ↔ D a b c ∨ P a b c) (hZ : ∀ a b c, D a b c → ¬ P a b c → Z' a b c → Z a b c) (hR : ∀ a b c j r, D a b c → ¬ P a b c → R' a b c j → ch_rt a b c j = some r → R a b c j) :
    NP S0 S' μ0 μ' D' Z' R' ∧ ∀ a b c v, S.2.1 a b c → S.1 a b c = v → S'.1 a b c = v := by
  refine ⟨⟨fun a b c => ?_, fun a b c hv => ?_, fun a b c hd => ?_, fun a b c hd hz' => ?_, fun a b c j r hd hr' he => ?_⟩, fun a b c v hv e => (hp.2.1 a b c hv).trans e⟩
  · rw [hD, hp.1 a b c, h.1 a b c, or_assoc]
  · rw [hp.2.1 a b c ((h.1 a b c).mpr (Or.inl hv))]; exact h.2.1 a b c hv
  · have g1 : ¬ D a b c := fun z => hd ((hD a b c).mpr (Or.inl z))
    have g2 : ¬ P a b c := fun z => hd ((hD a b c).mpr (Or.inr z))
    rw [(hp.2.2.1 a b c g2).1, (hp.2.2.1 a b c g2).2]; exact h.2.2.1 a b c g1
  · by_cases g2 : P a b c
    · exact hp.2.2.2.1 a b c g2 trivial
    · have g1 := ((hD a b c).mp hd).resolve_right g2
      rw [(hp.2.2.1 a b c g2).2]; exact h.2.2.2.1 a b c g1 (hZ a b c g1 g2 hz')
  · by_cases g2 : P a b c
    · exact hp.2.2.2.2 a b c j r g2 trivial he
    · have g1 := ((hD a b c).mp hd).resolve_right g2
      have h5 := h.2.2.2.2 a b c j r g1 (hR a b c j r g1 g2 hr' he) he
      rw [(hp.2.2.1 a b c g2).1, hp.2.1 _ _ _ h5.1]
      exact ⟨(hp.1 _ _ _).mpr (Or.inl h5.1), h5.2⟩
theorem NP_rf {S0 S : ch_S} {μ0 μ : ch_M} {D Z : Nat → Nat → Nat → Prop} {R : Nat → Nat → Nat → Nat → Prop} {k kd i j v : Nat} {r : Nat × Nat × Nat} (h : NP S0 S μ0 μ D Z R) (hd : D k kd i) (hr : ch_rt k kd i j = some r) (hv : S.2.1 r.1 r.2.1 r.2.2) (ev : S.1 r.1 r.2.1 r.2.2 = v) {D' Z' : Nat → Nat → Nat → Prop} {R' : Nat → Nat → Nat → Nat → Prop}
    (hD : ∀ a b c, D' a b c ↔ D a b c) (hZ : ∀ a b c, D a b c → Z' a b c → Z a b c) (hR : ∀ a b c j' r, D a b c → R' a b c j' → ch_rt a b c j' = some r → ¬ (a = k ∧ b = kd ∧ c = i ∧ j' = j) → R a b c j') : NP S0 (s_rf S k kd i j v) μ0 μ D' Z' R' := by
  refine ⟨fun a b c => (h.1 a b c).trans ⟨fun z => z.imp id (hD a b c).mpr, fun z => z.imp id (hD a b c).mp⟩, h.2.1, fun a b c z => ?_, fun a b c d z => h.2.2.2.1 a b c ((hD a b c).mp d) (hZ a b c ((hD a b c).mp d) z), fun a b c j' r' d z e => ?_⟩
  · have z' : ¬ D a b c := fun y => z ((hD a b c).mpr y)
    have e2 : (s_rf S k kd i j v).2.2 a b c = S.2.2 a b c := by
      funext x
      unfold s_rf
      exact if_neg (fun y => by obtain ⟨rfl, rfl, rfl, -⟩ := y; exact z' hd)
    rw [e2]; exact h.2.2.1 a b c z'
  · have d' := (hD a b c).mp d
    by_cases g : a = k ∧ b = kd ∧ c = i ∧ j' = j
    · obtain ⟨rfl, rfl, rfl, rfl⟩ := g
      cases hr.symm.trans e
      refine ⟨hv, ?_⟩
      show (if _ then some v else _) = some (S.1 _ _ _)
      rw [if_pos ⟨rfl, rfl, rfl, rfl⟩, ev]
    · have h5 := h.2.2.2.2 a b c j' r' d' (hR a b c j' r' d' z e g) e
      refine ⟨h5.1, ?_⟩
      show (if _ then some v else _) = some (S.1 _ _ _)
      rw [if_neg g]; exact h5.2
theorem NP_mem {S0 S : ch_S} {μ0 μ μ' : ch_M} {D Z : Nat → Nat → Nat → Prop} {R : Nat → Nat → Nat → Nat → Prop} {k kd i : Nat} (h : NP S0 S μ0 μ D Z R) (hd : D k kd i) (hm : ∀ a b c, ¬ (a = k ∧ b = kd ∧ c = i) → μ' a b c = μ a b c) {Z' : Nat → Nat → Nat → Prop} (hz : Z' k kd i → μ' k kd i = i_0 kd) (hZ : ∀ a b c, D a b c → ¬ (a = k ∧ b = kd ∧ c = i) → Z' a b c → Z a b c) : NP S0 S μ0 μ' D Z' R := by
  refine ⟨h.1, h.2.1, fun a b c z => ?_, fun a b c d z => ?_, h.2.2.2.2⟩
  · rw [hm a b c (fun e => by obtain ⟨rfl, rfl, rfl⟩ := e; exact z hd)]; exact h.2.2.1 a b c z
  · by_cases e : a = k ∧ b = kd ∧ c = i
    · obtain ⟨rfl, rfl, rfl⟩ := e
      exact hz z
    · rw [hm a b c e]; exact h.2.2.2.1 a b c d (hZ a b c d e z)
section CtRows
variable {X : ch_X} {E : ch_E} {own : String} {cc : ByteArray} {nL : Nat} {S : ch_S} {μ : ch_M} {kc ks pc : Nat} {L : List (Nat × Value)} {st : List Value}
theorem ca_tR {a b : Nat} (e : a = b) (kk : ch_W X E nL S μ kc ks pc L (.ref a :: st)) : ch_W X E nL S μ kc ks pc L (.ref b :: st) := by subst e; exact kk
theorem ca_tR2 {v : Value} {a b : Nat} (e : a = b) (kk : ch_W X E nL S μ kc ks pc L (v :: .ref a :: st)) : ch_W X E nL S μ kc ks pc L (v :: .ref b :: st) := by subst e; exact kk
theorem ca_room {kc' ks' : Nat} (e1 : kc = kc') (e2 : ks = ks') (kk : ch_W X E nL S μ kc' ks' pc L st) : ch_W X E nL S μ kc ks pc L st := by subst e1; subst e2; exact kk
theorem ca_nam {S' : ch_S} (e : S = S') (kk : ch_W X E nL S' μ kc ks pc L st) : ch_W X E nL S μ kc ks pc L st := by subst e; exact kk
theorem ca_objI (h : ch_H X E own cc nL) {D MC MS idx a : Nat} (hG : ch_G X D MC MS) (l1 : Cond.methodLink own idx Jvm.Lib.objectInit ∈ ch_GL) (l2 : Cond.instanceMethod Jvm.Lib.objectInit ∈ ch_GL) (l3 : Cond.code Jvm.Lib.objectInit ⟨#[0xb1]⟩ 1 none ∈ ch_GL) (hD : Nat.ble 1 D = true) (hst : Nat.ble (st.map fun v => v.category).sum 8 = true) (hd : decode cc pc = .ok (.invokespecial idx, 3)) (kk : ch_W X E nL S μ kc ks (pc + 3) L st) : ch_W X E nL S μ kc ks pc L (.ref a :: st) := by
  intro H locs ls hI hS hl
  have hts : ∀ w ∈ ch_GL, w.before (x_a X) (x_s X) = true := h.2.2.2.1
  have h1 := Nat.le_of_ble_eq_true hD
  have h2 := Nat.le_of_ble_eq_true hst
  have h3 := hG.2.1
  exact W.objInit h.1 h.2.1 h.2.2.1 (hts _ l1) (hts _ l2) (hts _ l3) rfl (hl.1.trans h.2.2.2.2.2.2.symm) rfl hd (Nat.le_trans h1 hG.1) (by show 2 * 0 + _ + 12 ≤ _; omega) (kk H locs ls hI hS hl)
theorem ca_ctI (h : ch_H X E own cc nL) {D MC MS idx d mc ms maxL b : Nat} {y : MethodName} {bytes : ByteArray} {P : Nat → Nat → Nat → Prop} (hG : ch_G X D MC MS) (l1 : Cond.methodLink own idx y ∈ ch_GL) (l2 : Cond.instanceMethod y ∈ ch_GL) (l4 : Cond.initialized y.cls ∈ ch_GL) (l5 : Cond.code y bytes maxL none ∈ ch_GL) (l6 : y.cls ≠ "java/lang/invoke/MethodHandle" ∧ y.cls ≠ "java/lang/invoke/VarHandle" ∧ (parseMethodDescriptor y.desc).map (fun d => d.parameters.length) = some 0) (l7 : y.name = "<init>") (hM : ch_C E (x_l X) y bytes maxL none d mc ms S μ [.ref b] (c_Post S μ P))
    (hD : Nat.ble (d + 1) D = true) (hm : Nat.ble maxL 22 = true) (hkc : kc + mc ≤ MC ∧ ks + ms ≤ MS) (hst : Nat.ble (st.map fun v => v.category).sum 8 = true) (hd : decode cc pc = .ok (.invokespecial idx, 3))
    (kk : ∀ (S' : ch_S) (μ' : ch_M), NP S S' μ μ' P NPT NPR → ch_W X E nL S' μ' (kc + mc) (ks + ms) (pc + 3) L st) : ch_W X E nL S μ kc ks pc L (.ref b :: st) :=
  ca_callI (As := []) h hG l1 l2 l4 l5 l6 l7 hM rfl rfl hD hm hkc hst hd (fun v S' μ' hp => by obtain ⟨rfl, hp⟩ := hp; exact kk S' μ' hp)
theorem ca_ctN (h : ch_H X E own cc nL) {D MC MS idx d mc ms maxL b : Nat} {y : MethodName} {bytes : ByteArray} {host : String} {P : Nat → Nat → Nat → Prop} (hG : ch_G X D MC MS) (l1 : (own, idx, y, host) ∈ ch_nest) (l2 : Cond.instanceMethod y ∈ ch_GL) (l4 : Cond.initialized y.cls ∈ ch_GL) (l5 : Cond.code y bytes maxL none ∈ ch_GL) (l6 : y.cls ≠ "java/lang/invoke/MethodHandle" ∧ y.cls ≠ "java/lang/invoke/VarHandle" ∧ (parseMethodDescriptor y.desc).map (fun d => d.parameters.length) = some 0) (l7 : y.name = "<init>") (hM : ch_C E (x_l X) y bytes maxL none d mc ms S μ [.ref b] (c_Post S μ P))
    (hD : Nat.ble (d + 1) D = true) (hm : Nat.ble maxL 22 = true) (hkc : kc + mc ≤ MC ∧ ks + ms ≤ MS) (hst : Nat.ble (st.map fun v => v.category).sum 8 = true) (hd : decode cc pc = .ok (.invokespecial idx, 3))
    (kk : ∀ (S' : ch_S) (μ' : ch_M), NP S S' μ μ' P NPT NPR → ch_W X E nL S' μ' (kc + mc) (ks + ms) (pc + 3) L st) : ch_W X E nL S μ kc ks pc L (.ref b :: st) :=
  ca_callIN (As := []) h hG l1 l2 l4 l5 l6 l7 hM rfl rfl hD hm hkc hst hd (fun v S' μ' hp => by obtain ⟨rfl, hp⟩ := hp; exact kk S' μ' hp)
end CtRows
/-- names of a network, of a mobile, of the history, of the class -/
def PN0 (b c : Nat) : Prop := (b = 0 ∧ c = 0) ∨ (b = 1 ∧ c < 9) ∨ (b = 2 ∧ c < 65) ∨ (3 ≤ b ∧ b ≤ 6 ∧ c < 13) ∨ (7 ≤ b ∧ b ≤ 10 ∧ c = 0)
def PN (k : Nat) (a b c : Nat) : Prop := a = k ∧ PN0 b c
def PM (k i : Nat) (a b c : Nat) : Prop := a = k ∧ 3 ≤ b ∧ b ≤ 6 ∧ c = i
def PO (k kd i : Nat) (a b c : Nat) : Prop := a = k ∧ b = kd ∧ c = i
def PB (lo hi : Nat) (a b c : Nat) : Prop := a = 15 ∧ lo ≤ b ∧ b ≤ hi ∧ c = 0
def PH (a b c : Nat) : Prop := (a = 15 ∧ 14 ≤ b ∧ b ≤ 15 ∧ c = 0) ∨ (3 ≤ a ∧ a < 15 ∧ PN0 b c)
def PX (a b c : Nat) : Prop := (a = 15 ∧ 11 ≤ b ∧ b ≤ 21 ∧ c = 0) ∨ (a < 15 ∧ PN0 b c)
