/-! THE LAW'S OWN MODEL: its names, how it holds a network (through the row w of part 30, a ghost here) -/
def o_V (cc M : Nat) (k kd i : Nat) : Prop := match kd with
  | 22 => k = 16 ∧ i = 0
  | 23 => k = 16 ∧ i < M
  | 24 => k = 16 ∧ (i < 4 ∨ (8 ≤ i ∧ i < 8 + M))
  | 25 => k = 16 ∧ i = 0
  | 48 => k = 16 ∧ (i < cc ∨ (8 ≤ i ∧ i < 34) ∨ (40 ≤ i ∧ i < 40 + M))
  | _ => False
def o_rt (cc M : Nat) (k kd i j : Nat) : Option (Nat × Nat × Nat) := match kd with
  | 22 => match j with
    | 9 => some (k, 24, 0) | 10 => some (k, 24, 1) | 11 => some (k, 24, 2) | 12 => some (k, 24, 3) | 13 => some (k, 48, 32) | 14 => some (k, 48, 33) | 15 => some (k, 25, 0) | _ => none
  | 23 => match j with
    | 11 => some (k, 48, 40 + i) | 12 => some (k, 24, 8 + i) | _ => none
  | 24 => if i < 4 ∧ (i = 0 → j < cc) ∧ j < 8 then some (k, 48, 8 * i + j) else none
  | 25 => if j < M then some (k, 23, j) else none
  | _ => none
theorem o_rt24 {cc M k i j : Nat} (h : i < 4 ∧ (i = 0 → j < cc) ∧ j < 8) : o_rt cc M k 24 i j = some (k, 48, 8 * i + j) := if_pos h
theorem o_rt240 {cc M k j : Nat} (h : j < cc ∧ j < 8) : o_rt cc M k 24 0 j = some (k, 48, j) := by
  rw [o_rt24 ⟨by decide, fun _ => h.1, h.2⟩]; simp
theorem o_rt241 {cc M k j : Nat} (h : j < 8) : o_rt cc M k 24 1 j = some (k, 48, 8 + j) := o_rt24 ⟨by decide, fun z => (by cases z), h⟩
theorem o_rt242 {cc M k j : Nat} (h : j < 8) : o_rt cc M k 24 2 j = some (k, 48, 16 + j) := o_rt24 ⟨by decide, fun z => (by cases z), h⟩
theorem o_rt243 {cc M k j : Nat} (h : j < 8) : o_rt cc M k 24 3 j = some (k, 48, 24 + j) := o_rt24 ⟨by decide, fun z => (by cases z), h⟩
theorem o_rt25 {cc M k i j : Nat} (h : j < M) : o_rt cc M k 25 i j = some (k, 23, j) := if_pos h
def o_St (S : ch_S) (cc M : Nat) : Prop := (∀ k kd i, o_V cc M k kd i → S.2.1 k kd i) ∧ (∀ k kd i j a, o_V cc M k kd i → o_rt cc M k kd i j = some a → S.2.2 k kd i j = some (S.1 a.1 a.2.1 a.2.2)) ∧ ∃ F, ∀ kd i, F ≤ i → ¬ S.2.1 18 kd i
def o_hd (j : Nat) : Nat := if j = 0 then 0 else j + 1
/-- the reports of mobile m of cell c -/
def o_rp (S : ch_S) (μ : ch_M) (m c : Nat) (w : Nat → Int32) : Prop := ∃ N id, w (210 + 91 * m + (19 + c)) = nI N ∧ N ≤ 8 ∧ S.2.1 18 (N + 40) id ∧ S.2.2 16 24 (8 + m) c = some (S.1 18 (N + 40) id) ∧ ∀ t, t < N → μ 18 (N + 40) id t = w (210 + 91 * m + (27 + 8 * c + t))
def o_M (S : ch_S) (μ : ch_M) (m : Nat) (w : Nat → Int32) : Prop := (∀ f, f < 11 → μ 16 23 m f = w (210 + 91 * m + f)) ∧ (∀ c, c < 8 → μ 16 48 (40 + m) c = w (210 + 91 * m + (11 + c))) ∧ ∀ c, c < 8 → o_rp S μ m c w
def o_L (n : ch_N) (w : Nat → Int32) (S : ch_S) (μ : ch_M) : Prop :=
  (∀ j, j < 9 → μ 16 22 0 j = w (o_hd j)) ∧ (∀ c f, c < k_cc n → f < 8 → μ 16 48 c f = n 1 c f) ∧ (∀ c, c < k_cc n → μ 16 48 33 c = n 1 c 8) ∧ (∀ t, t < 8 → μ 16 48 32 t = n 7 0 t) ∧
  (∀ a b, a < 8 → b < 8 → μ 16 48 (8 + a) b = (if n 2 (8 * a + b) 0 = 0 then -1 else n 2 (8 * a + b) 1) ∧ μ 16 48 (16 + a) b = n 2 (8 * a + b) 2 ∧ μ 16 48 (24 + a) b = n 2 (8 * a + b) 3) ∧
  ∀ m, m < k_mc n → o_M S μ m w
def o_NW (n : ch_N) (w : Nat → Int32) (S : ch_S) (μ : ch_M) : Prop := o_St S (k_cc n) (k_mc n) ∧ r_N n w ∧ o_L n w S μ
theorem o_NW.st {n : ch_N} {w : Nat → Int32} {S : ch_S} {μ : ch_M} (h : o_NW n w S μ) : o_St S (k_cc n) (k_mc n) := h.1
theorem o_NW.rn {n : ch_N} {w : Nat → Int32} {S : ch_S} {μ : ch_M} (h : o_NW n w S μ) : r_N n w := h.2.1
section ON
variable {n : ch_N} {w : Nat → Int32} {S : ch_S} {μ : ch_M}
theorem o_NW.hd (h : o_NW n w S μ) {j : Nat} (hj : j < 9) : μ 16 22 0 j = n 0 0 (o_hd j) := (h.2.2.1 j hj).trans (h.rn.1 _ (by unfold o_hd; split <;> omega))
theorem o_NW.m12 (h : o_NW n w S μ) : k_mc n ≤ 12 := h.rn.2.2.2.2.2.1
theorem o_NW.c8 (h : o_NW n w S μ) : k_cc n ≤ 8 := h.rn.2.2.2.2.2.2.1
theorem o_NW.many (h : o_NW n w S μ) : μ 16 22 0 1 = nI (k_mc n) := (h.hd (by decide)).trans (nI_cn h.rn.2.1.2.1.2.2.2.2).symm
theorem o_NW.cells (h : o_NW n w S μ) : μ 16 22 0 0 = nI (k_cc n) := (h.hd (by decide)).trans (nI_cn h.rn.2.1.2.1.2.2.2.1).symm
theorem o_NW.mb (h : o_NW n w S μ) {m : Nat} (hm : m < k_mc n) : o_M S μ m w := h.2.2.2.2.2.2.2 m hm
theorem o_NW.mw (h : o_NW n w S μ) {m f : Nat} (hm : m < k_mc n) (hf : f < 11) : μ 16 23 m f = w (210 + 91 * m + f) := (h.mb hm).1 f hf
theorem o_NW.mf (h : o_NW n w S μ) {m f : Nat} (hm : m < k_mc n) (hf : f < 7) : μ 16 23 m f = n 3 m f := (h.mw hm (by omega)).trans (r_f h.rn hm hf)
theorem o_NW.at8 (h : o_NW n w S μ) {m : Nat} (hm : m < k_mc n) : μ 16 23 m 8 = n 3 m 8 := (h.mw hm (by decide)).trans (r_8 h.rn hm)
theorem o_NW.cf (h : o_NW n w S μ) {c f : Nat} (hc : c < k_cc n) (hf : f < 8) : μ 16 48 c f = n 1 c f := h.2.2.2.1 c f hc hf
theorem o_NW.cg (h : o_NW n w S μ) {c : Nat} (hc : c < k_cc n) : μ 16 48 33 c = n 1 c 8 := h.2.2.2.2.1 c hc
theorem o_NW.tt (h : o_NW n w S μ) {t : Nat} (ht : t < 8) : μ 16 48 32 t = n 7 0 t := h.2.2.2.2.2.1 t ht
theorem o_NW.hy (h : o_NW n w S μ) {a b : Nat} (ha : a < 8) (hb : b < 8) : μ 16 48 (8 + a) b = (if n 2 (8 * a + b) 0 = 0 then -1 else n 2 (8 * a + b) 1) := (h.2.2.2.2.2.2.1 a b ha hb).1
theorem o_NW.su (h : o_NW n w S μ) {a b : Nat} (ha : a < 8) (hb : b < 8) : μ 16 48 (16 + a) b = n 2 (8 * a + b) 2 := (h.2.2.2.2.2.2.1 a b ha hb).2.1
theorem o_NW.rf (h : o_NW n w S μ) {a b : Nat} (ha : a < 8) (hb : b < 8) : μ 16 48 (24 + a) b = n 2 (8 * a + b) 3 := (h.2.2.2.2.2.2.1 a b ha hb).2.2
end ON
set_option maxHeartbeats 200000 in
theorem c_X13_busy {l : Launch} {E : ch_E} {S : ch_S} {μ : ch_M} {n : ch_N} {w : Nat → Int32} (hN : o_NW n w S μ) {c : Int32} : ch_C E l yX13_busy cX13_busy 4 (some FieldType.int) 1 0 0 S μ [.ref (S.1 16 22 0), .int c] (ch_F (some (.int (k_tk n c))) S (μ)) := by
  refine ch_enter rfl rfl ?_
  intro X hl0 h hG hR hnm
  have h : ch_H X E RX13 cX13_busy 4 := h
  have hm12 := hN.m12
  have hc8 := hN.c8
  show ch_W X E 4 S μ 0 0 0 [(0, .ref (S.1 16 22 0)), (1, .int c)] []
  refine ca_iconst h dX13_busy_0 ik_0 ?_
  refine ca_istore_n h dX13_busy_1 rfl ?_
  refine ca_iconst h dX13_busy_2 ik_0 ?_
  refine ca_istore_n h dX13_busy_3 rfl ?_
  have loop_4 : ∀ (jj m : Nat), m + jj = k_mc n → ∀ (x2 : Int32) (e2 : x2 = kf (fun i r => if n 3 i 4 = 1 ∧ n 3 i 5 = c then r + 1 else r) m 0), ch_W X E 4 S μ 0 0 4 [(0, .ref (S.1 16 22 0)), (1, .int c), (2, .int x2), (3, .int (nI m))] [] := by
    intro jj
    induction jj with
    | zero =>
      intro m hn x2 e2
      have hn : m = k_mc n := by omega
      subst e2
      refine ca_iload_n h dX13_busy_4 rfl ?_
      refine ca_aload_nr h dX13_busy_5 rfl ?_
      refine gi_X13_60 h (hN.st.1 _ _ _ (by show _ ∧ _; omega)) dX13_busy_6 ?_
      refine ca_top (y := nI (k_mc n)) hN.many ?_
      refine ca_icmp_ge (tgt := 47) h dX13_busy_9 (by decide) (fun c_9 => ?_) (fun c_9 => ?_)
      ·
        refine ca_iload_n h dX13_busy_47 rfl ?_
        refine ca_ireturn h hR rfl dX13_busy_48 ?_
        exact ⟨by rw [hn]; rfl, rfl, rfl⟩
      · exact absurd c_9 (by rw [hn]; exact Int32.lt_irrefl)
    | succ jj ih_4 =>
      intro m hn x2 e2
      have hn1 : m < k_mc n := by omega
      subst e2
      refine ca_iload_n h dX13_busy_4 rfl ?_
      refine ca_aload_nr h dX13_busy_5 rfl ?_
      refine gi_X13_60 h (hN.st.1 _ _ _ (by show _ ∧ _; omega)) dX13_busy_6 ?_
      refine ca_top (y := nI (k_mc n)) hN.many ?_
      refine ca_icmp_ge (tgt := 47) h dX13_busy_9 (by decide) (fun c_9 => ?_) (fun c_9 => ?_)
      · exact absurd (nI_lt hn1 (by omega)) c_9
      ·
        refine ca_aload_nr h dX13_busy_12 rfl ?_
        refine gr_X13_52 h (hN.st.1 _ _ _ (by show _ ∧ _; omega)) (hN.st.2.1 _ _ _ _ _ (by show _ ∧ _; omega) rfl) dX13_busy_13 ?_
        show ch_W X E _ _ _ _ _ _ _ (.ref (S.1 16 25 0) :: _)
        refine ca_iload_n h dX13_busy_16 rfl ?_
        refine oa_aald h (j := m) rfl (by decide) (hN.st.1 _ _ _ (by show _ ∧ _; omega)) rfl (by omega) (by decide) (hN.st.2.1 _ _ _ _ _ (by show _ ∧ _; omega) (o_rt25 (by omega))) dX13_busy_17 ?_
        show ch_W X E _ _ _ _ _ _ _ (.ref (S.1 16 23 m) :: _)
        refine gi_X13_88 h (hN.st.1 _ _ _ (by show _ ∧ _; omega)) dX13_busy_18 ?_
        refine ca_top (y := n 3 m 4) (hN.mf (by omega) (by decide)) ?_
        refine ca_iconst h dX13_busy_21 ik_1 ?_
        refine ca_icmp_ne (tgt := 41) h dX13_busy_22 (by decide) (fun c_22 => ?_) (fun c_22 => ?_)
        ·
          refine ca_iinc h dX13_busy_41 rfl ik_1 rfl ?_
          rw [show nI m + 1 = nI (m + 1) from nI_1 _]
          refine ca_goto (tgt := 4) h dX13_busy_44 (by decide) ?_
          refine ca_pick [1, 2, 3, 0] rfl ?_
          exact ih_4 (m + 1) (by omega) _ (by show _ = (if n 3 m 4 = 1 ∧ n 3 m 5 = c then _ else _); rw [if_neg (fun z => by first | exact c_22 z.1 | exact c_35 z.2)])
        ·
          refine ca_aload_nr h dX13_busy_25 rfl ?_
          refine gr_X13_52 h (hN.st.1 _ _ _ (by show _ ∧ _; omega)) (hN.st.2.1 _ _ _ _ _ (by show _ ∧ _; omega) rfl) dX13_busy_26 ?_
          show ch_W X E _ _ _ _ _ _ _ (.ref (S.1 16 25 0) :: _)
          refine ca_iload_n h dX13_busy_29 rfl ?_
          refine oa_aald h (j := m) rfl (by decide) (hN.st.1 _ _ _ (by show _ ∧ _; omega)) rfl (by omega) (by decide) (hN.st.2.1 _ _ _ _ _ (by show _ ∧ _; omega) (o_rt25 (by omega))) dX13_busy_30 ?_
          show ch_W X E _ _ _ _ _ _ _ (.ref (S.1 16 23 m) :: _)
          refine gi_X13_91 h (hN.st.1 _ _ _ (by show _ ∧ _; omega)) dX13_busy_31 ?_
          refine ca_top (y := n 3 m 5) (hN.mf (by omega) (by decide)) ?_
          refine ca_iload_n h dX13_busy_34 rfl ?_
          refine ca_icmp_ne (tgt := 41) h dX13_busy_35 (by decide) (fun c_35 => ?_) (fun c_35 => ?_)
          ·
            refine ca_iinc h dX13_busy_41 rfl ik_1 rfl ?_
            rw [show nI m + 1 = nI (m + 1) from nI_1 _]
            refine ca_goto (tgt := 4) h dX13_busy_44 (by decide) ?_
            refine ca_pick [1, 2, 3, 0] rfl ?_
            exact ih_4 (m + 1) (by omega) _ (by show _ = (if n 3 m 4 = 1 ∧ n 3 m 5 = c then _ else _); rw [if_neg (fun z => by first | exact c_22 z.1 | exact c_35 z.2)])
          ·
            refine ca_iinc h dX13_busy_38 rfl ik_1 rfl ?_
            refine ca_iinc h dX13_busy_41 rfl ik_1 rfl ?_
            rw [show nI m + 1 = nI (m + 1) from nI_1 _]
            refine ca_goto (tgt := 4) h dX13_busy_44 (by decide) ?_
            refine ca_pick [2, 3, 1, 0] rfl ?_
            exact ih_4 (m + 1) (by omega) _ (by show _ = (if n 3 m 4 = 1 ∧ n 3 m 5 = c then _ else _); rw [if_pos ⟨c_22, c_35⟩])
  refine ca_pick [2, 3, 1, 0] rfl ?_
  exact loop_4 (k_mc n) 0 (by omega) _ rfl
set_option maxHeartbeats 200000 in
theorem c_X13_waits {l : Launch} {E : ch_E} {S : ch_S} {μ : ch_M} {n : ch_N} {w : Nat → Int32} (hN : o_NW n w S μ) {c : Int32} : ch_C E l yX13_waits cX13_waits 4 (some FieldType.int) 1 0 0 S μ [.ref (S.1 16 22 0), .int c] (ch_F (some (.int (k_rq n c))) S (μ)) := by
  refine ch_enter rfl rfl ?_
  intro X hl0 h hG hR hnm
  have h : ch_H X E RX13 cX13_waits 4 := h
  have hm12 := hN.m12
  have hc8 := hN.c8
  show ch_W X E 4 S μ 0 0 0 [(0, .ref (S.1 16 22 0)), (1, .int c)] []
  refine ca_iconst h dX13_waits_0 ik_0 ?_
  refine ca_istore_n h dX13_waits_1 rfl ?_
  refine ca_iconst h dX13_waits_2 ik_0 ?_
  refine ca_istore_n h dX13_waits_3 rfl ?_
  have loop_4 : ∀ (jj m : Nat), m + jj = k_mc n → ∀ (x2 : Int32) (e2 : x2 = kf (fun i r => if n 3 i 8 = c then r + 1 else r) m 0), ch_W X E 4 S μ 0 0 4 [(0, .ref (S.1 16 22 0)), (1, .int c), (2, .int x2), (3, .int (nI m))] [] := by
    intro jj
    induction jj with
    | zero =>
      intro m hn x2 e2
      have hn : m = k_mc n := by omega
      subst e2
      refine ca_iload_n h dX13_waits_4 rfl ?_
      refine ca_aload_nr h dX13_waits_5 rfl ?_
      refine gi_X13_60 h (hN.st.1 _ _ _ (by show _ ∧ _; omega)) dX13_waits_6 ?_
      refine ca_top (y := nI (k_mc n)) hN.many ?_
      refine ca_icmp_ge (tgt := 34) h dX13_waits_9 (by decide) (fun c_9 => ?_) (fun c_9 => ?_)
      ·
        refine ca_iload_n h dX13_waits_34 rfl ?_
        refine ca_ireturn h hR rfl dX13_waits_35 ?_
        exact ⟨by rw [hn]; rfl, rfl, rfl⟩
      · exact absurd c_9 (by rw [hn]; exact Int32.lt_irrefl)
    | succ jj ih_4 =>
      intro m hn x2 e2
      have hn1 : m < k_mc n := by omega
      subst e2
      refine ca_iload_n h dX13_waits_4 rfl ?_
      refine ca_aload_nr h dX13_waits_5 rfl ?_
      refine gi_X13_60 h (hN.st.1 _ _ _ (by show _ ∧ _; omega)) dX13_waits_6 ?_
      refine ca_top (y := nI (k_mc n)) hN.many ?_
      refine ca_icmp_ge (tgt := 34) h dX13_waits_9 (by decide) (fun c_9 => ?_) (fun c_9 => ?_)
      · exact absurd (nI_lt hn1 (by omega)) c_9
      ·
        refine ca_aload_nr h dX13_waits_12 rfl ?_
        refine gr_X13_52 h (hN.st.1 _ _ _ (by show _ ∧ _; omega)) (hN.st.2.1 _ _ _ _ _ (by show _ ∧ _; omega) rfl) dX13_waits_13 ?_
        show ch_W X E _ _ _ _ _ _ _ (.ref (S.1 16 25 0) :: _)
        refine ca_iload_n h dX13_waits_16 rfl ?_
        refine oa_aald h (j := m) rfl (by decide) (hN.st.1 _ _ _ (by show _ ∧ _; omega)) rfl (by omega) (by decide) (hN.st.2.1 _ _ _ _ _ (by show _ ∧ _; omega) (o_rt25 (by omega))) dX13_waits_17 ?_
        show ch_W X E _ _ _ _ _ _ _ (.ref (S.1 16 23 m) :: _)
        refine gi_X13_96 h (hN.st.1 _ _ _ (by show _ ∧ _; omega)) dX13_waits_18 ?_
        refine ca_top (y := n 3 m 8) (hN.at8 (by omega)) ?_
        refine ca_iload_n h dX13_waits_21 rfl ?_
        refine ca_icmp_ne (tgt := 28) h dX13_waits_22 (by decide) (fun c_22 => ?_) (fun c_22 => ?_)
        ·
          refine ca_iinc h dX13_waits_28 rfl ik_1 rfl ?_
          rw [show nI m + 1 = nI (m + 1) from nI_1 _]
          refine ca_goto (tgt := 4) h dX13_waits_31 (by decide) ?_
          refine ca_pick [1, 2, 3, 0] rfl ?_
          exact ih_4 (m + 1) (by omega) _ (by show _ = (if n 3 m 8 = c then _ else _); rw [if_neg c_22])
        ·
          refine ca_iinc h dX13_waits_25 rfl ik_1 rfl ?_
          refine ca_iinc h dX13_waits_28 rfl ik_1 rfl ?_
          rw [show nI m + 1 = nI (m + 1) from nI_1 _]
          refine ca_goto (tgt := 4) h dX13_waits_31 (by decide) ?_
          refine ca_pick [2, 3, 1, 0] rfl ?_
          exact ih_4 (m + 1) (by omega) _ (by show _ = (if n 3 m 8 = c then _ else _); rw [if_pos c_22])
  refine ca_pick [2, 3, 1, 0] rfl ?_
  exact loop_4 (k_mc n) 0 (by omega) _ rfl
set_option maxHeartbeats 200000 in
theorem c_X13_free {l : Launch} {E : ch_E} {S : ch_S} {μ : ch_M} {n : ch_N} {w : Nat → Int32} (hN : o_NW n w S μ) {c : Nat} (hc : c < k_cc n) : ch_C E l yX13_free cX13_free 2 (some FieldType.boolean) 2 0 0 S μ [.ref (S.1 16 22 0), .int (nI c)] (ch_F (some (.int (bI (k_free n (nI c))))) S (μ)) := by
  refine ch_enter rfl rfl ?_
  intro X hl0 h hG hR hnm
  have h : ch_H X E RX13 cX13_free 2 := h
  have hm12 := hN.m12
  have hc8 := hN.c8
  show ch_W X E 2 S μ 0 0 0 [(0, .ref (S.1 16 22 0)), (1, .int (nI c))] []
  refine ca_aload_nr h dX13_free_0 rfl ?_
  refine ca_iload_n h dX13_free_1 rfl ?_
  refine oa_v h hG ml_X13_93 (c_X13_busy hN) (ci := 13) rfl rfl rfl (hN.st.1 _ _ _ (by show _ ∧ _; omega)) rfl rfl rfl rfl ⟨Nat.le_refl _, Nat.le_refl _⟩ rfl dX13_free_2 ?_
  refine ca_aload_nr h dX13_free_5 rfl ?_
  refine gr_X13_30 h (hN.st.1 _ _ _ (by show _ ∧ _; omega)) (hN.st.2.1 _ _ _ _ _ (by show _ ∧ _; omega) rfl) dX13_free_6 ?_
  show ch_W X E _ _ _ _ _ _ _ (.ref (S.1 16 24 0) :: _)
  refine ca_iload_n h dX13_free_9 rfl ?_
  refine oa_aald h (j := c) rfl (by decide) (hN.st.1 _ _ _ (by show _ ∧ _; omega)) rfl (by omega) (by decide) (hN.st.2.1 _ _ _ _ _ (by show _ ∧ _; omega) (o_rt240 (by omega))) dX13_free_10 ?_
  show ch_W X E _ _ _ _ _ _ _ (.ref (S.1 16 48 c) :: _)
  refine ca_iconst h dX13_free_11 ik_4 ?_
  refine oa_iald h (j := 4) rfl (hN.st.1 _ _ _ (by show _ ∧ _; omega)) rfl (by omega) (by decide) dX13_free_12 ?_
  refine ca_top (y := n 1 c 4) (hN.cf (by omega) (by decide)) ?_
  refine ca_icmp_ge (tgt := 20) h dX13_free_13 (by decide) (fun c_13 => ?_) (fun c_13 => ?_)
  ·
    refine ca_iconst h dX13_free_20 ik_0 ?_
    refine ca_ireturn h hR rfl dX13_free_21 ?_
    exact ⟨by unfold k_free; rw [k_cel (by omega), decide_eq_false (Int32.not_lt.mpr (Int32.not_lt.mp c_13))]; rfl, rfl, rfl⟩
  ·
    refine ca_iconst h dX13_free_16 ik_1 ?_
    refine ca_goto (tgt := 21) h dX13_free_17 (by decide) ?_
    refine ca_ireturn h hR rfl dX13_free_21 ?_
    exact ⟨by unfold k_free; rw [k_cel (by omega), decide_eq_true c_13]; rfl, rfl, rfl⟩
theorem o_lv {n : ch_N} {c : Nat} {x y v : Int32} (e : v = n 1 c 2 - n 1 c 3 * (k_abs (n 1 c 0 - x) + k_abs (n 1 c 1 - y)) / 100) : k_lv n c x y = if v < 0 then 0 else v := by
  unfold k_lv
  rw [k_abs_sub x, k_abs_sub y, ← e]
  unfold k_max
  by_cases h : v < 0
  · rw [if_neg (fun z => absurd (Int32.lt_trans h z) (Int32.lt_irrefl)), if_pos h]
  · rw [if_neg h]
    by_cases h2 : 0 < v
    · rw [if_pos h2]
    · rw [if_neg h2]; exact Int32.le_antisymm (Int32.not_lt.mp h) (Int32.not_lt.mp h2)
/-- the first of the greatest levels among the cells a .. N - 1 -/
def o_fm (n : ch_N) (x y : Int32) (a N : Nat) (b : Int32) : Prop := (a = N ∧ b = -1) ∨ ∃ q, a ≤ q ∧ q < N ∧ b = nI q ∧ ∀ i, a ≤ i → i < N → ¬ k_lv n q x y < k_lv n i x y ∧ (i < q → k_lv n i x y < k_lv n q x y)
theorem o_ld (n : ch_N) (x y : Int32) : ∀ N, (N = 0 ∧ k_ld n x y N = (-1, -1)) ∨ ∃ q, q < N ∧ k_ld n x y N = (nI q, k_lv n q x y) ∧ ∀ i, i < N → ¬ k_lv n q x y < k_lv n i x y ∧ (i < q → k_lv n i x y < k_lv n q x y)
  | 0 => Or.inl ⟨rfl, rfl⟩
  | N + 1 => by
    have e : k_ld n x y (N + 1) = if (k_ld n x y N).2 < k_lv n N x y then (nI N, k_lv n N x y) else k_ld n x y N := rfl
    rw [e]
    rcases o_ld n x y N with ⟨rfl, h⟩ | ⟨q, hq, h, hm⟩
    · rw [h, if_pos (k_lv_nn n 0 x y)]
      refine Or.inr ⟨0, by omega, rfl, fun i hi => ?_⟩
      have : i = 0 := by omega
      subst this
      exact ⟨Int32.lt_irrefl, fun z => absurd z (Nat.lt_irrefl _)⟩
    · rw [h]
      by_cases hl : k_lv n q x y < k_lv n N x y
      · rw [if_pos hl]
        refine Or.inr ⟨N, by omega, rfl, fun i hi => ?_⟩
        by_cases hi2 : i = N
        · subst hi2; exact ⟨Int32.lt_irrefl, fun z => absurd z (Nat.lt_irrefl _)⟩
        · have h1 := (hm i (by omega)).1
          have h2 : k_lv n i x y < k_lv n N x y := Int32.lt_of_le_of_lt (Int32.not_lt.mp h1) hl
          exact ⟨fun z => absurd (Int32.lt_trans h2 z) (Int32.lt_irrefl), fun _ => h2⟩
      · rw [if_neg hl]
        refine Or.inr ⟨q, by omega, rfl, fun i hi => ?_⟩
        by_cases hi2 : i = N
        · subst hi2; exact ⟨hl, fun z => by omega⟩
        · exact hm i (by omega)
theorem o_fm_ld {n : ch_N} {x y b : Int32} {N : Nat} (h : o_fm n x y 0 N b) : b = (k_ld n x y N).1 := by
  rcases h with ⟨h1, h2⟩ | ⟨q, -, hq, e, hm⟩
  · subst h1; exact h2
  · rcases o_ld n x y N with ⟨h0, -⟩ | ⟨p, hp, e2, hm2⟩
    · omega
    · rw [e2, e]
      by_cases h : p = q
      · rw [h]
      · rcases Nat.lt_or_gt_of_ne h with h | h
        · exact absurd ((hm p (by omega) hp).2 h) (hm2 q hq).1
        · exact absurd ((hm2 q hq).2 h) (hm p (by omega) hp).1
theorem o_fm_new {n : ch_N} {x y b : Int32} {s N : Nat} (hs : s < N) (h : o_fm n x y (s + 1) N b) (hb : ∀ q, s < q → q < N → b = nI q → ¬ k_lv n s x y < k_lv n q x y) : o_fm n x y s N (nI s) := by
  refine Or.inr ⟨s, Nat.le_refl _, hs, rfl, fun i hi hN => ?_⟩
  by_cases e : i = s
  · subst e; exact ⟨Int32.lt_irrefl, fun z => absurd z (Nat.lt_irrefl _)⟩
  · refine ⟨fun z => ?_, fun z => by omega⟩
    rcases h with ⟨h1, -⟩ | ⟨q, hq, hqN, e2, hm⟩
    · omega
    · have h1 := (hm i (by omega) hN).1
      exact hb q (by omega) hqN e2 (Int32.lt_of_lt_of_le z (Int32.not_lt.mp h1))
theorem o_fm_old {n : ch_N} {x y : Int32} {s N q : Nat} (hq1 : s < q) (hN : N ≤ 8) (hqN : q < N) (h : o_fm n x y (s + 1) N (nI q)) (hb : k_lv n s x y < k_lv n q x y) : o_fm n x y s N (nI q) := by
  rcases h with ⟨h1, e⟩ | ⟨p, hp, hpN, e2, hm⟩
  · exact absurd e (nI_nm1 (by omega))
  · have : q = p := (nI_eq (by omega) (by omega)).mp e2
    subst this
    refine Or.inr ⟨q, by omega, hqN, rfl, fun i hi hiN => ?_⟩
    by_cases e : i = s
    · subst e; exact ⟨fun z => absurd (Int32.lt_trans hb z) (Int32.lt_irrefl), fun _ => hb⟩
    · exact hm i (by omega) hiN
theorem o_sum {n : ch_N} {m a : Nat} {f : Nat → Int32} : ∀ q, (∀ t, t < q → f t = n 4 m (a + t)) → kf (fun t r => r + f t) q 0 = k_sum n m a q
  | 0, _ => rfl
  | q + 1, h => by
    show kf (fun t r => r + f t) q 0 + f q = k_sum n m a q + n 4 m (a + q)
    rw [o_sum q (fun t ht => h t (by omega)), h q (by omega)]
/-- reports of a talking mobile -/
theorem o_NW.rp {n : ch_N} {w : Nat → Int32} {S : ch_S} {μ : ch_M} (h : o_NW n w S μ) {m c : Nat} (hm : m < k_mc n) (ht : n 3 m 4 = 1) (hc : c < 8) : ∃ N id, n 5 m c = nI N ∧ N ≤ 8 ∧ S.2.1 18 (N + 40) id ∧ S.2.2 16 24 (8 + m) c = some (S.1 18 (N + 40) id) ∧ ∀ t, t < N → μ 18 (N + 40) id t = n 4 m (8 * c + t) := by
  obtain ⟨N, id, h1, h2, h3, h4, h5⟩ := (h.mb hm).2.2 c hc
  have e : n 5 m c = nI N := (r_ct h.rn hm ht hc).symm.trans h1
  refine ⟨N, id, e, h2, h3, h4, fun t htN => (h5 t htN).trans (r_lv h.rn hm ht hc ?_)⟩
  rw [e, nI_clamp (by omega)]; exact htN
set_option maxHeartbeats 200000 in
theorem c_X13_level {l : Launch} {E : ch_E} {S : ch_S} {μ : ch_M} {n : ch_N} {w : Nat → Int32} (hN : o_NW n w S μ) {c : Nat} (hc : c < k_cc n) {x y : Int32} : ch_C E l yX13_level cX13_level 5 (some FieldType.int) 1 0 0 S μ [.ref (S.1 16 22 0), .int (nI c), .int x, .int y] (ch_F (some (.int (k_lv n c x y))) S (μ)) := by
  refine ch_enter rfl rfl ?_
  intro X hl0 h hG hR hnm
  have h : ch_H X E RX13 cX13_level 5 := h
  have hm12 := hN.m12
  have hc8 := hN.c8
  show ch_W X E 5 S μ 0 0 0 [(0, .ref (S.1 16 22 0)), (1, .int (nI c)), (2, .int x), (3, .int y)] []
  refine ca_aload_nr h dX13_level_0 rfl ?_
  refine gr_X13_30 h (hN.st.1 _ _ _ (by show _ ∧ _; omega)) (hN.st.2.1 _ _ _ _ _ (by show _ ∧ _; omega) rfl) dX13_level_1 ?_
  show ch_W X E _ _ _ _ _ _ _ (.ref (S.1 16 24 0) :: _)
  refine ca_iload_n h dX13_level_4 rfl ?_
  refine oa_aald h (j := c) rfl (by decide) (hN.st.1 _ _ _ (by show _ ∧ _; omega)) rfl (by omega) (by decide) (hN.st.2.1 _ _ _ _ _ (by show _ ∧ _; omega) (o_rt240 (by omega))) dX13_level_5 ?_
  show ch_W X E _ _ _ _ _ _ _ (.ref (S.1 16 48 c) :: _)
  refine ca_iconst h dX13_level_6 ik_2 ?_
  refine oa_iald h (j := 2) rfl (hN.st.1 _ _ _ (by show _ ∧ _; omega)) rfl (by omega) (by decide) dX13_level_7 ?_
  refine ca_top (y := n 1 c 2) (hN.cf (by omega) (by decide)) ?_
  refine ca_aload_nr h dX13_level_8 rfl ?_
  refine gr_X13_30 h (hN.st.1 _ _ _ (by show _ ∧ _; omega)) (hN.st.2.1 _ _ _ _ _ (by show _ ∧ _; omega) rfl) dX13_level_9 ?_
  show ch_W X E _ _ _ _ _ _ _ (.ref (S.1 16 24 0) :: _)
  refine ca_iload_n h dX13_level_12 rfl ?_
  refine oa_aald h (j := c) rfl (by decide) (hN.st.1 _ _ _ (by show _ ∧ _; omega)) rfl (by omega) (by decide) (hN.st.2.1 _ _ _ _ _ (by show _ ∧ _; omega) (o_rt240 (by omega))) dX13_level_13 ?_
  show ch_W X E _ _ _ _ _ _ _ (.ref (S.1 16 48 c) :: _)
  refine ca_iconst h dX13_level_14 ik_3 ?_
  refine oa_iald h (j := 3) rfl (hN.st.1 _ _ _ (by show _ ∧ _; omega)) rfl (by omega) (by decide) dX13_level_15 ?_
  refine ca_top (y := n 1 c 3) (hN.cf (by omega) (by decide)) ?_
  refine ca_aload_nr h dX13_level_16 rfl ?_
  refine gr_X13_30 h (hN.st.1 _ _ _ (by show _ ∧ _; omega)) (hN.st.2.1 _ _ _ _ _ (by show _ ∧ _; omega) rfl) dX13_level_17 ?_
  show ch_W X E _ _ _ _ _ _ _ (.ref (S.1 16 24 0) :: _)
  refine ca_iload_n h dX13_level_20 rfl ?_
  refine oa_aald h (j := c) rfl (by decide) (hN.st.1 _ _ _ (by show _ ∧ _; omega)) rfl (by omega) (by decide) (hN.st.2.1 _ _ _ _ _ (by show _ ∧ _; omega) (o_rt240 (by omega))) dX13_level_21 ?_
  show ch_W X E _ _ _ _ _ _ _ (.ref (S.1 16 48 c) :: _)
  refine ca_iconst h dX13_level_22 ik_0 ?_
  refine oa_iald h (j := 0) rfl (hN.st.1 _ _ _ (by show _ ∧ _; omega)) rfl (by omega) (by decide) dX13_level_23 ?_
  refine ca_top (y := n 1 c 0) (hN.cf (by omega) (by decide)) ?_
  refine ca_iload_n h dX13_level_24 rfl ?_
  refine ca_isub h dX13_level_25 ?_
  refine ca_mabs h hG rfl rfl rfl kw_735 kw_556 kw_15 kw_557 (Nat.le_of_ble_eq_true rfl) dX13_level_26 ?_
  refine ca_aload_nr h dX13_level_29 rfl ?_
  refine gr_X13_30 h (hN.st.1 _ _ _ (by show _ ∧ _; omega)) (hN.st.2.1 _ _ _ _ _ (by show _ ∧ _; omega) rfl) dX13_level_30 ?_
  show ch_W X E _ _ _ _ _ _ _ (.ref (S.1 16 24 0) :: _)
  refine ca_iload_n h dX13_level_33 rfl ?_
  refine oa_aald h (j := c) rfl (by decide) (hN.st.1 _ _ _ (by show _ ∧ _; omega)) rfl (by omega) (by decide) (hN.st.2.1 _ _ _ _ _ (by show _ ∧ _; omega) (o_rt240 (by omega))) dX13_level_34 ?_
  show ch_W X E _ _ _ _ _ _ _ (.ref (S.1 16 48 c) :: _)
  refine ca_iconst h dX13_level_35 ik_1 ?_
  refine oa_iald h (j := 1) rfl (hN.st.1 _ _ _ (by show _ ∧ _; omega)) rfl (by omega) (by decide) dX13_level_36 ?_
  refine ca_top (y := n 1 c 1) (hN.cf (by omega) (by decide)) ?_
  refine ca_iload_n h dX13_level_37 rfl ?_
  refine ca_isub h dX13_level_38 ?_
  refine ca_mabs h hG rfl rfl rfl kw_735 kw_556 kw_15 kw_557 (Nat.le_of_ble_eq_true rfl) dX13_level_39 ?_
  refine ca_iadd h dX13_level_42 ?_
  refine ca_imul h dX13_level_43 ?_
  refine ca_bipush h dX13_level_44 bk_100 ?_
  refine ca_idiv h dX13_level_46 (by decide) ?_
  refine ca_isub h dX13_level_47 ?_
  have hlv := o_lv (n := n) (c := c) (x := x) (y := y) rfl
  unfold k_abs at hlv
  generalize hgv : n 1 c 2 - _ = v at hlv ⊢
  refine ca_istore h dX13_level_48 rfl ?_
  refine ca_iload h dX13_level_50 rfl ?_
  refine ca_if_ge (tgt := 59) h dX13_level_52 (by decide) (fun c_52 => ?_) (fun c_52 => ?_)
  ·
    refine ca_iload h dX13_level_59 rfl ?_
    refine ca_ireturn h hR rfl dX13_level_61 ?_
    exact ⟨by rw [hlv, if_neg c_52], rfl, rfl⟩
  ·
    refine ca_iconst h dX13_level_55 ik_0 ?_
    refine ca_goto (tgt := 61) h dX13_level_56 (by decide) ?_
    refine ca_ireturn h hR rfl dX13_level_61 ?_
    exact ⟨by rw [hlv, if_pos c_52], rfl, rfl⟩
set_option maxHeartbeats 200000 in
theorem c_X13_strongest {l : Launch} {E : ch_E} {S : ch_S} {μ : ch_M} {n : ch_N} {w : Nat → Int32} (hN : o_NW n w S μ) {x y : Int32} : ch_C E l yX13_strongest cX13_strongest 5 (some FieldType.int) 2 0 0 S μ [.ref (S.1 16 22 0), .int x, .int y] (ch_F (some (.int ((k_ld n x y (k_cc n)).1))) S (μ)) := by
  refine ch_enter rfl rfl ?_
  intro X hl0 h hG hR hnm
  have h : ch_H X E RX13 cX13_strongest 5 := h
  have hm12 := hN.m12
  have hc8 := hN.c8
  show ch_W X E 5 S μ 0 0 0 [(0, .ref (S.1 16 22 0)), (1, .int x), (2, .int y)] []
  refine ca_iconst h dX13_strongest_0 ik_m1 ?_
  refine ca_istore_n h dX13_strongest_1 rfl ?_
  refine ca_aload_nr h dX13_strongest_2 rfl ?_
  refine gi_X13_57 h (hN.st.1 _ _ _ (by show _ ∧ _; omega)) dX13_strongest_3 ?_
  refine ca_top (y := nI (k_cc n)) hN.cells ?_
  refine ca_iconst h dX13_strongest_6 ik_1 ?_
  refine ca_isub h dX13_strongest_7 ?_
  refine ca_istore h dX13_strongest_8 rfl ?_
  have loop_10 : ∀ (jj t : Nat), t + jj = k_cc n → ∀ (x4 : Int32) (e4 : x4 = nI (k_cc n - t) - 1) (b3 : Int32) (hB : o_fm n x y (k_cc n - t) (k_cc n) b3), ch_W X E 5 S μ 0 0 10 [(0, .ref (S.1 16 22 0)), (1, .int x), (2, .int y), (3, .int b3), (4, .int x4)] [] := by
    intro jj
    induction jj with
    | zero =>
      intro t hn x4 e4 b3 hB
      have hn : t = k_cc n := by omega
      subst e4
      have e0 : nI (k_cc n - t) - 1 = -1 := by rw [hn, Nat.sub_self]; rfl
      rw [e0]
      have hB0 : o_fm n x y 0 (k_cc n) b3 := by rw [hn, Nat.sub_self] at hB; exact hB
      refine ca_iload h dX13_strongest_10 rfl ?_
      refine ca_if_lt (tgt := 46) h dX13_strongest_12 (by decide) (fun c_12 => ?_) (fun c_12 => ?_)
      ·
        refine ca_iload_n h dX13_strongest_46 rfl ?_
        refine ca_ireturn h hR rfl dX13_strongest_47 ?_
        exact ⟨by rw [o_fm_ld hB0], rfl, rfl⟩
      · exact absurd (by decide) c_12
    | succ jj ih_10 =>
      intro t hn x4 e4 b3 hB
      have hn1 : t < k_cc n := by omega
      subst e4
      obtain ⟨s, hs⟩ : ∃ s, k_cc n - t = s + 1 := ⟨k_cc n - t - 1, by omega⟩
      have e0 : nI (k_cc n - t) - 1 = nI s := by rw [hs, nI_pred]
      rw [e0]
      rw [hs] at hB
      have e1 : nI s + (-1) = nI (k_cc n - (t + 1)) - 1 := by rw [show k_cc n - (t + 1) = s by omega]; exact (Int32.sub_eq_add_neg _ _).symm
      have e2 : k_cc n - (t + 1) = s := by omega
      refine ca_iload h dX13_strongest_10 rfl ?_
      refine ca_if_lt (tgt := 46) h dX13_strongest_12 (by decide) (fun c_12 => ?_) (fun c_12 => ?_)
      · exact absurd c_12 (nI_pos (by omega))
      ·
        refine ca_iload_n h dX13_strongest_15 rfl ?_
        refine ca_if_lt (tgt := 37) h dX13_strongest_16 (by decide) (fun c_16 => ?_) (fun c_16 => ?_)
        ·
          refine ca_iload h dX13_strongest_37 rfl ?_
          refine ca_istore_n h dX13_strongest_39 rfl ?_
          refine ca_iinc h dX13_strongest_40 rfl ik_m1 rfl ?_
          refine ca_goto (tgt := 10) h dX13_strongest_43 (by decide) ?_
          refine ca_pick [2, 3, 4, 1, 0] rfl ?_
          exact ih_10 (t + 1) (by omega) _ e1 _ (by rw [e2]; exact o_fm_new (by omega) hB (fun q h1 h2 e => absurd c_16 (by rw [e]; exact nI_pos (by omega))))
        ·
          obtain ⟨q, hq1, hq2, rfl, -⟩ := hB.resolve_left (fun z => c_16 (by rw [z.2]; decide))
          refine ca_aload_nr h dX13_strongest_19 rfl ?_
          refine ca_iload h dX13_strongest_20 rfl ?_
          refine ca_iload_n h dX13_strongest_22 rfl ?_
          refine ca_iload_n h dX13_strongest_23 rfl ?_
          refine oa_v h hG ml_X13_80 (c_X13_level hN (c := s) (by omega)) (ci := 13) rfl rfl rfl (hN.st.1 _ _ _ (by show _ ∧ _; omega)) rfl rfl rfl rfl ⟨Nat.le_refl _, Nat.le_refl _⟩ rfl dX13_strongest_24 ?_
          refine ca_aload_nr h dX13_strongest_27 rfl ?_
          refine ca_iload_n h dX13_strongest_28 rfl ?_
          refine ca_iload_n h dX13_strongest_29 rfl ?_
          refine ca_iload_n h dX13_strongest_30 rfl ?_
          refine oa_v h hG ml_X13_80 (c_X13_level hN (c := q) (by omega)) (ci := 13) rfl rfl rfl (hN.st.1 _ _ _ (by show _ ∧ _; omega)) rfl rfl rfl rfl ⟨Nat.le_refl _, Nat.le_refl _⟩ rfl dX13_strongest_31 ?_
          refine ca_icmp_lt (tgt := 40) h dX13_strongest_34 (by decide) (fun c_34 => ?_) (fun c_34 => ?_)
          ·
            refine ca_iinc h dX13_strongest_40 rfl ik_m1 rfl ?_
            refine ca_goto (tgt := 10) h dX13_strongest_43 (by decide) ?_
            refine ca_pick [1, 2, 3, 4, 0] rfl ?_
            exact ih_10 (t + 1) (by omega) _ e1 _ (by rw [e2]; exact o_fm_old (by omega) hc8 (by omega) hB c_34)
          ·
            refine ca_iload h dX13_strongest_37 rfl ?_
            refine ca_istore_n h dX13_strongest_39 rfl ?_
            refine ca_iinc h dX13_strongest_40 rfl ik_m1 rfl ?_
            refine ca_goto (tgt := 10) h dX13_strongest_43 (by decide) ?_
            refine ca_pick [2, 3, 4, 1, 0] rfl ?_
            exact ih_10 (t + 1) (by omega) _ e1 _ (by rw [e2]; exact o_fm_new (by omega) hB (fun p h1 h2 e => by have e9 := (nI_eq (by omega) (by omega)).mp e; subst e9; exact c_34))
  refine ca_pick [2, 3, 4, 1, 0] rfl ?_
  exact loop_10 (k_cc n) 0 (by omega) _ rfl _ (Or.inl ⟨by omega, rfl⟩)
set_option maxHeartbeats 200000 in
theorem c_X13_covers {l : Launch} {E : ch_E} {S : ch_S} {μ : ch_M} {n : ch_N} {w : Nat → Int32} (hN : o_NW n w S μ) {x y : Int32} : ch_C E l yX13_covers cX13_covers 4 (some FieldType.int) 3 0 0 S μ [.ref (S.1 16 22 0), .int x, .int y] (ch_F (some (.int (k_cov n x y))) S (μ)) := by
  refine ch_enter rfl rfl ?_
  intro X hl0 h hG hR hnm
  have h : ch_H X E RX13 cX13_covers 4 := h
  have hm12 := hN.m12
  have hc8 := hN.c8
  obtain ⟨b, hb⟩ : ∃ b, b = (k_ld n x y (k_cc n)).1 := ⟨_, rfl⟩
  have hcov : k_cov n x y = if b = -1 then -1 else if k_use n b x y = true then b else -1 := by rw [hb]; rfl
  have hbc : b = -1 ∨ ∃ q, q < k_cc n ∧ b = nI q := by rcases o_ld n x y (k_cc n) with ⟨-, e⟩ | ⟨q, hq, e, -⟩; (· exact Or.inl (by rw [hb, e])); (· exact Or.inr ⟨q, hq, by rw [hb, e]⟩)
  show ch_W X E 4 S μ 0 0 0 [(0, .ref (S.1 16 22 0)), (1, .int x), (2, .int y)] []
  refine ca_aload_nr h dX13_covers_0 rfl ?_
  refine ca_iload_n h dX13_covers_1 rfl ?_
  refine ca_iload_n h dX13_covers_2 rfl ?_
  refine oa_v h hG ml_X13_84 (c_X13_strongest hN) (ci := 13) rfl rfl rfl (hN.st.1 _ _ _ (by show _ ∧ _; omega)) rfl rfl rfl rfl ⟨Nat.le_refl _, Nat.le_refl _⟩ rfl dX13_covers_3 ?_
  rw [← hb]
  refine ca_istore_n h dX13_covers_6 rfl ?_
  refine ca_iload_n h dX13_covers_7 rfl ?_
  refine ca_if_lt (tgt := 34) h dX13_covers_8 (by decide) (fun c_8 => ?_) (fun c_8 => ?_)
  ·
    refine ca_iconst h dX13_covers_34 ik_m1 ?_
    refine ca_ireturn h hR rfl dX13_covers_35 ?_
    exact ⟨by rw [hcov, if_pos (hbc.resolve_right (fun ⟨q, hq, e⟩ => nI_pos (by omega) (e ▸ c_8)))], rfl, rfl⟩
  ·
    obtain ⟨q, hq, rfl⟩ := hbc.resolve_left (fun z => c_8 (by rw [z]; decide))
    refine ca_aload_nr h dX13_covers_11 rfl ?_
    refine ca_iload_n h dX13_covers_12 rfl ?_
    refine ca_iload_n h dX13_covers_13 rfl ?_
    refine ca_iload_n h dX13_covers_14 rfl ?_
    refine oa_v h hG ml_X13_80 (c_X13_level hN hq) (ci := 13) rfl rfl rfl (hN.st.1 _ _ _ (by show _ ∧ _; omega)) rfl rfl rfl rfl ⟨Nat.le_refl _, Nat.le_refl _⟩ rfl dX13_covers_15 ?_
    refine ca_aload_nr h dX13_covers_18 rfl ?_
    refine gr_X13_30 h (hN.st.1 _ _ _ (by show _ ∧ _; omega)) (hN.st.2.1 _ _ _ _ _ (by show _ ∧ _; omega) rfl) dX13_covers_19 ?_
    show ch_W X E _ _ _ _ _ _ _ (.ref (S.1 16 24 0) :: _)
    refine ca_iload_n h dX13_covers_22 rfl ?_
    refine oa_aald h (j := q) rfl (by decide) (hN.st.1 _ _ _ (by show _ ∧ _; omega)) rfl (by omega) (by decide) (hN.st.2.1 _ _ _ _ _ (by show _ ∧ _; omega) (o_rt240 (by omega))) dX13_covers_23 ?_
    show ch_W X E _ _ _ _ _ _ _ (.ref (S.1 16 48 q) :: _)
    refine ca_bipush h dX13_covers_24 bk_6 ?_
    refine oa_iald h (j := 6) rfl (hN.st.1 _ _ _ (by show _ ∧ _; omega)) rfl (by omega) (by decide) dX13_covers_26 ?_
    refine ca_top (y := n 1 q 6) (hN.cf (by omega) (by decide)) ?_
    refine ca_icmp_lt (tgt := 34) h dX13_covers_27 (by decide) (fun c_27 => ?_) (fun c_27 => ?_)
    ·
      refine ca_iconst h dX13_covers_34 ik_m1 ?_
      refine ca_ireturn h hR rfl dX13_covers_35 ?_
      exact ⟨by rw [hcov, if_neg (nI_nm1 (by omega))]; unfold k_use; rw [k_cel (by omega), decide_eq_true c_27]; rfl, rfl, rfl⟩
    ·
      refine ca_iload_n h dX13_covers_30 rfl ?_
      refine ca_goto (tgt := 35) h dX13_covers_31 (by decide) ?_
      refine ca_ireturn h hR rfl dX13_covers_35 ?_
      exact ⟨by rw [hcov, if_neg (nI_nm1 (by omega))]; unfold k_use; rw [k_cel (by omega), decide_eq_false (Int32.not_lt.mpr (Int32.not_lt.mp c_27))]; rfl, rfl, rfl⟩
set_option maxHeartbeats 200000 in
theorem c_X12_average {l : Launch} {E : ch_E} {S : ch_S} {μ : ch_M} {n : ch_N} {w : Nat → Int32} (hN : o_NW n w S μ) {m c : Nat} (hm : m < k_mc n) (ht : n 3 m 4 = 1) (hc : c < 8) (hp : 0 < n 5 m c) : ch_C E l yX12_average cX12_average 7 (some FieldType.int) 1 0 0 S μ [.ref (S.1 16 23 m), .int (nI c)] (ch_F (some (.int (k_avg n m (nI c)))) S (μ)) := by
  refine ch_enter rfl rfl ?_
  intro X hl0 h hG hR hnm
  have h : ch_H X E RX12 cX12_average 7 := h
  have hm12 := hN.m12
  have hc8 := hN.c8
  obtain ⟨N, id, e5, hN8, hv, hr, hel⟩ := hN.rp hm ht hc
  have hN0 : 0 < N := by rcases Nat.eq_zero_or_pos N with z | z; (· rw [e5, z] at hp; exact absurd hp (by decide)); (· exact z)
  show ch_W X E 7 S μ 0 0 0 [(0, .ref (S.1 16 23 m)), (1, .int (nI c))] []
  refine ca_iconst h dX12_average_0 ik_0 ?_
  refine ca_istore_n h dX12_average_1 rfl ?_
  refine ca_aload_nr h dX12_average_2 rfl ?_
  refine gr_X12_22 h (hN.st.1 _ _ _ (by show _ ∧ _; omega)) (hN.st.2.1 _ _ _ _ _ (by show _ ∧ _; omega) rfl) dX12_average_3 ?_
  show ch_W X E _ _ _ _ _ _ _ (.ref (S.1 16 24 (8 + m)) :: _)
  refine ca_iload_n h dX12_average_6 rfl ?_
  refine oa_aald h (j := c) rfl (by decide) (hN.st.1 _ _ _ (by show _ ∧ _; omega)) rfl (by omega) (by decide) hr dX12_average_7 ?_
  show ch_W X E _ _ _ _ _ _ _ (.ref (S.1 18 (N + 40) id) :: _)
  refine ca_astore_n h dX12_average_8 rfl ?_
  refine ca_aload_nr h dX12_average_9 rfl ?_
  refine oa_alen h (ch_kdn N) hv rfl dX12_average_10 ?_
  refine ca_istore h dX12_average_11 rfl ?_
  refine ca_iconst h dX12_average_13 ik_0 ?_
  refine ca_istore h dX12_average_14 rfl ?_
  have loop_16 : ∀ (jj t : Nat), t + jj = N → ∀ (x2 : Int32) (e2 : x2 = kf (fun t r => r + μ 18 (N + 40) id t) t 0), ch_W X E 7 S μ 0 0 16 [(0, .ref (S.1 16 23 m)), (1, .int (nI c)), (2, .int x2), (3, .ref (S.1 18 (N + 40) id)), (4, .int (nI N)), (5, .int (nI t))] [] := by
    intro jj
    induction jj with
    | zero =>
      intro t hn x2 e2
      have hn : t = N := by omega
      subst e2
      refine ca_iload h dX12_average_16 rfl ?_
      refine ca_iload h dX12_average_18 rfl ?_
      refine ca_icmp_ge (tgt := 40) h dX12_average_20 (by decide) (fun c_20 => ?_) (fun c_20 => ?_)
      ·
        refine ca_iload_n h dX12_average_40 rfl ?_
        refine ca_aload_nr h dX12_average_41 rfl ?_
        refine gr_X12_22 h (hN.st.1 _ _ _ (by show _ ∧ _; omega)) (hN.st.2.1 _ _ _ _ _ (by show _ ∧ _; omega) rfl) dX12_average_42 ?_
        show ch_W X E _ _ _ _ _ _ _ (.ref (S.1 16 24 (8 + m)) :: _)
        refine ca_iload_n h dX12_average_45 rfl ?_
        refine oa_aald h (j := c) rfl (by decide) (hN.st.1 _ _ _ (by show _ ∧ _; omega)) rfl (by omega) (by decide) hr dX12_average_46 ?_
        show ch_W X E _ _ _ _ _ _ _ (.ref (S.1 18 (N + 40) id) :: _)
        refine oa_alen h (ch_kdn N) hv rfl dX12_average_47 ?_
        refine ca_idiv h dX12_average_48 (nI_ne0 hN0 (by omega)) ?_
        refine ca_ireturn h hR rfl dX12_average_49 ?_
        exact ⟨by unfold k_avg; rw [k_rep_c hc, if_pos hp, e5, nI_clamp (show N < 2 ^ 31 by omega), nI_clamp (show c < 2 ^ 31 by omega), hn, o_sum N hel], rfl, rfl⟩
      · exact absurd c_20 (by rw [hn]; exact Int32.lt_irrefl)
    | succ jj ih_16 =>
      intro t hn x2 e2
      have hn1 : t < N := by omega
      subst e2
      refine ca_iload h dX12_average_16 rfl ?_
      refine ca_iload h dX12_average_18 rfl ?_
      refine ca_icmp_ge (tgt := 40) h dX12_average_20 (by decide) (fun c_20 => ?_) (fun c_20 => ?_)
      · exact absurd (nI_lt hn1 (by omega)) c_20
      ·
        refine ca_aload_nr h dX12_average_23 rfl ?_
        refine ca_iload h dX12_average_24 rfl ?_
        refine oa_ialdN h (j := t) (ch_kdn N) hv rfl (by omega) (by omega) dX12_average_26 ?_
        refine ca_istore h dX12_average_27 rfl ?_
        refine ca_iload_n h dX12_average_29 rfl ?_
        refine ca_iload h dX12_average_30 rfl ?_
        refine ca_iadd h dX12_average_32 ?_
        refine ca_istore_n h dX12_average_33 rfl ?_
        refine ca_iinc h dX12_average_34 rfl ik_1 rfl ?_
        rw [show nI t + 1 = nI (t + 1) from nI_1 _]
        refine ca_goto (tgt := 16) h dX12_average_37 (by decide) ?_
        refine ca_pick [3, 4, 1, 5, 6, 0] rfl ?_
        exact ih_16 (t + 1) (by omega) _ rfl
  refine ca_pick [4, 5, 3, 2, 1, 0] rfl ?_
  exact loop_16 N 0 (by omega) _ rfl
