/-! THE READER OF QUERIES -/
theorem tsw7 (x : Int32) : x = 0 ∨ x = 1 ∨ x = 2 ∨ x = 3 ∨ x = 4 ∨ x = 5 ∨ x = 6 ∨ ((x.toInt < 0 ∨ 6 < x.toInt) ∧ ¬ x = 0 ∧ ¬ x = 1 ∧ ¬ x = 2 ∧ ¬ x = 3 ∧ ¬ x = 4 ∧ ¬ x = 5 ∧ ¬ x = 6) := by
  by_cases h0 : x = 0
  · exact Or.inl h0
  by_cases h1 : x = 1
  · exact Or.inr (Or.inl h1)
  by_cases h2 : x = 2
  · exact Or.inr (Or.inr (Or.inl h2))
  by_cases h3 : x = 3
  · exact Or.inr (Or.inr (Or.inr (Or.inl h3)))
  by_cases h4 : x = 4
  · exact Or.inr (Or.inr (Or.inr (Or.inr (Or.inl h4))))
  by_cases h5 : x = 5
  · exact Or.inr (Or.inr (Or.inr (Or.inr (Or.inr (Or.inl h5)))))
  by_cases h6 : x = 6
  · exact Or.inr (Or.inr (Or.inr (Or.inr (Or.inr (Or.inr (Or.inl h6))))))
  refine Or.inr (Or.inr (Or.inr (Or.inr (Or.inr (Or.inr (Or.inr ⟨?_, h0, h1, h2, h3, h4, h5, h6⟩))))))
  have g : ∀ (y : Int32) (j : Int), y.toInt = j → ¬ x = y → ¬ x.toInt = j := fun y j hy hn z => hn (Int32.toInt_inj.mp (by rw [z, hy]))
  have g0 := g 0 0 (by decide) h0
  have g1 := g 1 1 (by decide) h1
  have g2 := g 2 2 (by decide) h2
  have g3 := g 3 3 (by decide) h3
  have g4 := g 4 4 (by decide) h4
  have g5 := g 5 5 (by decide) h5
  have g6 := g 6 6 (by decide) h6
  omega
section Tab
variable {X : ch_X} {E : ch_E} {own : String} {cc : ByteArray} {nL : Nat} {S : ch_S} {μ : ch_M} {kc ks pc : Nat} {L : List (Nat × Value)} {st : List Value}
theorem ca_tab7 (h : ch_H X E own cc nL) {dflt o0 o1 o2 o3 o4 o5 o6 : Int} {len t0 t1 t2 t3 t4 t5 t6 td : Nat} {x : Int32} (hd : decode cc pc = .ok (.tableswitch dflt 0 6 #[o0, o1, o2, o3, o4, o5, o6], len))
    (e0 : (pc : Int) + o0 = (t0 : Int)) (e1 : (pc : Int) + o1 = (t1 : Int)) (e2 : (pc : Int) + o2 = (t2 : Int)) (e3 : (pc : Int) + o3 = (t3 : Int)) (e4 : (pc : Int) + o4 = (t4 : Int)) (e5 : (pc : Int) + o5 = (t5 : Int)) (e6 : (pc : Int) + o6 = (t6 : Int)) (ed : (pc : Int) + dflt = (td : Int))
    (k0 : x = 0 → ch_W X E nL S μ kc ks t0 L st) (k1 : x = 1 → ch_W X E nL S μ kc ks t1 L st) (k2 : x = 2 → ch_W X E nL S μ kc ks t2 L st) (k3 : x = 3 → ch_W X E nL S μ kc ks t3 L st) (k4 : x = 4 → ch_W X E nL S μ kc ks t4 L st) (k5 : x = 5 → ch_W X E nL S μ kc ks t5 L st) (k6 : x = 6 → ch_W X E nL S μ kc ks t6 L st)
    (kd : ¬ x = 0 ∧ ¬ x = 1 ∧ ¬ x = 2 ∧ ¬ x = 3 ∧ ¬ x = 4 ∧ ¬ x = 5 ∧ ¬ x = 6 → ch_W X E nL S μ kc ks td L st) : ch_W X E nL S μ kc ks pc L (.int x :: st) := by
  rcases tsw7 x with e | e | e | e | e | e | e | ⟨e, f⟩
  · subst e; exact ca_tableIn h hd (by decide) (by decide) (off := o0) rfl e0 (k0 rfl)
  · subst e; exact ca_tableIn h hd (by decide) (by decide) (off := o1) rfl e1 (k1 rfl)
  · subst e; exact ca_tableIn h hd (by decide) (by decide) (off := o2) rfl e2 (k2 rfl)
  · subst e; exact ca_tableIn h hd (by decide) (by decide) (off := o3) rfl e3 (k3 rfl)
  · subst e; exact ca_tableIn h hd (by decide) (by decide) (off := o4) rfl e4 (k4 rfl)
  · subst e; exact ca_tableIn h hd (by decide) (by decide) (off := o5) rfl e5 (k5 rfl)
  · subst e; exact ca_tableIn h hd (by decide) (by decide) (off := o6) rfl e6 (k6 rfl)
  · exact ca_tableOut h hd e ed (kd f)
end Tab
def e_nm (x : Int32) : Nat := if x = 0 then 12 else if x = 1 then 13 else if x = 2 then 14 else if x = 3 then 15 else if x = 4 then 1 else if x = 5 then 16 else if x = 6 then 17 else 18
theorem e_nm_j : ∀ j, j < 8 → e_nm (nI j) = ch_nm j := by decide
theorem ch_nm_lt : ∀ j, j < 8 → ch_nm j < ch_nS := by decide
def e_vf (n : ch_N) (v : Int32) (i : Nat) : Int32 := if ¬ v < 0 then v else if -1 - v = 0 then nI i else if -1 - v = 1 then n 3 i 0 else if -1 - v = 2 then n 3 i 1 else if -1 - v = 3 then n 3 i 4 else
  if -1 - v = 4 then (if n 3 i 5 = -1 then 9 else n 3 i 5) else if -1 - v = 5 then (if n 3 i 4 = 1 then n 3 i 6 else 0) else if -1 - v = 6 then k_rep n i (n 3 i 5) else if n 3 i 8 = -1 then 0 else 1
def e_svL (q : ch_N) : Nat → Int32 × ch_N
  | 0 => t_see q 0 9999
  | j + 1 => if t_is q (ch_nm (8 - (j + 1))) = true then (-1 - nI (8 - (j + 1)), q) else e_svL q j
def e_sv (q : ch_N) : Int32 × ch_N := e_svL q 8
def e_bit (i : Nat) : Int32 := 1 <<< (nI i &&& 31)
def e_c (ls eq : Bool) (a b : Int32) : Bool := if ls = true then decide (a < b) else if eq = true then decide (a = b) else decide (b < a)
def e_hold (n : ch_N) (ls eq : Bool) (l r : Int32) : Nat → Int32 := fun N => kf (fun i h => if e_c ls eq (e_vf n l i) (e_vf n r i) = true then h ||| e_bit i else h) N 0
def e_q1 (q : ch_N) : ch_N := t_adv (e_sv q).2
def e_q2 (q : ch_N) : ch_N := if t_is q 19 = true then q else if t_is q 20 = true then q else if t_is q 21 = true then q else t_fail q 1
def e_q3 (q : ch_N) : ch_N := t_adv (e_q2 (e_q1 q))
def e_cmp (n q : ch_N) : Int32 × ch_N := (e_hold n (t_is (e_q1 q) 19) (t_is (e_q1 q) 20) (e_sv q).1 (e_sv (e_q3 q)).1 (k_mc n), t_adv (e_sv (e_q3 q)).2)
def e_all (n : ch_N) : Int32 := 1 <<< (n 0 0 2 &&& 31) - 1
def e_tL (F : ch_N → Int32 × ch_N) : Nat → Int32 × Int32 × ch_N → Int32 × Int32 × ch_N
  | 0, p => p
  | j + 1, p => if t_is p.2.2 23 = true then e_tL F j (p.1 ||| p.2.1, (F (t_adv p.2.2)).1, (F (t_adv p.2.2)).2) else if t_is p.2.2 24 = true then e_tL F j (p.1, p.2.1 &&& (F (t_adv p.2.2)).1, (F (t_adv p.2.2)).2) else p
def e_tR (F : ch_N → Int32 × ch_N) (q : ch_N) : Int32 × Int32 × ch_N := e_tL F 200 (0, (F q).1, (F q).2)
def e_tst (F : ch_N → Int32 × ch_N) (q : ch_N) : Int32 × ch_N := ((e_tR F q).1 ||| (e_tR F q).2.1, (e_tR F q).2.2)
def e_fac (n : ch_N) : Nat → ch_N → Int32 × ch_N
  | 0, q => if t_is q 10 = true then (0, t_fail q 3) else if t_is q 11 = true then (0, t_fail q 3) else e_cmp n q
  | d + 1, q => if t_is q 10 = true then (e_all n &&& ((e_fac n d (t_adv q)).1 ^^^ -1), (e_fac n d (t_adv q)).2) else if t_is q 11 = true then ((e_tst (e_fac n d) (t_adv q)).1, t_exp (e_tst (e_fac n d) (t_adv q)).2 22) else e_cmp n q
def e_fst (n : ch_N) (x : Int32) : Int32 := kq (fun i => decide (¬ x &&& e_bit i = 0)) (k_mc n) (k_mc n)
def e_h1 (q : ch_N) : ch_N := if t_is q 8 = true then q else if t_is q 9 = true then q else t_fail q 1
def e_h2 (n q : ch_N) : Int32 × ch_N := e_tst (e_fac n 6) (t_adv (e_h1 q))
def e_qry (n q : ch_N) : Int32 × ch_N := (if t_is q 8 = true then k_bc (e_h2 n q).1 else e_fst n (e_h2 n q).1, if t_go (e_h2 n q).2 = true then t_fail (e_h2 n q).2 1 else (e_h2 n q).2)
theorem e_svL_tx {q : ch_N} (h : k_tx q) : ∀ j, k_tx (e_svL q j).2
  | 0 => k_tx_see h _ _
  | j + 1 => by
    unfold e_svL
    split
    · exact h
    · exact e_svL_tx h j
theorem e_sv_tx {q : ch_N} (h : k_tx q) : k_tx (e_sv q).2 := e_svL_tx h 8
theorem e_q2_tx {q : ch_N} (h : k_tx q) : k_tx (e_q2 q) := by
  unfold e_q2
  split
  · exact h
  · split
    · exact h
    · split
      · exact h
      · exact k_tx_fail h
theorem e_q3_tx {q : ch_N} (h : k_tx q) : k_tx (e_q3 q) := k_tx_adv (e_q2_tx (k_tx_adv (e_sv_tx h)))
theorem e_cmp_tx {n q : ch_N} (h : k_tx q) : k_tx (e_cmp n q).2 := by
  unfold e_cmp
  dsimp only
  exact k_tx_adv (e_sv_tx (e_q3_tx h))
theorem e_tL_tx {F : ch_N → Int32 × ch_N} (hF : ∀ q, k_tx q → k_tx (F q).2) : ∀ (j : Nat) (p : Int32 × Int32 × ch_N), k_tx p.2.2 → k_tx (e_tL F j p).2.2
  | 0, _, h => h
  | j + 1, p, h => by
    unfold e_tL
    split
    · exact e_tL_tx hF j _ (hF _ (k_tx_adv h))
    · split
      · exact e_tL_tx hF j _ (hF _ (k_tx_adv h))
      · exact h
theorem e_tst_tx {F : ch_N → Int32 × ch_N} (hF : ∀ q, k_tx q → k_tx (F q).2) {q : ch_N} (h : k_tx q) : k_tx (e_tst F q).2 := e_tL_tx hF 200 _ (hF _ h)
theorem e_fac_tx (n : ch_N) : ∀ (d : Nat) (q : ch_N), k_tx q → k_tx (e_fac n d q).2
  | 0, q, h => by
    unfold e_fac
    split
    · exact k_tx_fail h
    · split
      · exact k_tx_fail h
      · exact e_cmp_tx h
  | d + 1, q, h => by
    unfold e_fac
    split
    · exact e_fac_tx n d _ (k_tx_adv h)
    · split
      · exact k_tx_exp (e_tst_tx (e_fac_tx n d) (k_tx_adv h)) _
      · exact e_cmp_tx h
theorem e_fac_s (n : ch_N) (d : Nat) (q : ch_N) : e_fac n (d + 1) q = if t_is q 10 = true then (e_all n &&& ((e_fac n d (t_adv q)).1 ^^^ -1), (e_fac n d (t_adv q)).2) else if t_is q 11 = true then ((e_tst (e_fac n d) (t_adv q)).1, t_exp (e_tst (e_fac n d) (t_adv q)).2 22) else e_cmp n q := rfl
theorem e_fac_0 (n q : ch_N) : e_fac n 0 q = if t_is q 10 = true then (0, t_fail q 3) else if t_is q 11 = true then (0, t_fail q 3) else e_cmp n q := rfl
theorem e_h1_tx {q : ch_N} (h : k_tx q) : k_tx (e_h1 q) := by
  unfold e_h1
  split
  · exact h
  · split
    · exact h
    · exact k_tx_fail h
set_option maxHeartbeats 100000 in
theorem c_X5_nameOf {l : Launch} {E : ch_E} {S : ch_S} {μ : ch_M} {j : Nat} (hj : j < 8) : ch_C E l yX5_nameOf cX5_nameOf 1 (some (FieldType.object "java/lang/String")) 1 0 0 S μ [.int (nI j)] (ch_F (some (.ref (E.2.2.2.1 (ch_nm j)))) S (μ)) := by
  refine ch_enter rfl rfl ?_
  intro X hl0 h hG hR hnm
  have h : ch_H X E RX5 cX5_nameOf 1 := h
  show ch_W X E 1 S μ 0 0 0 [(0, .int (nI j))] []
  refine ca_iload_n h dX5_nameOf_0 rfl ?_
  refine ca_tab7 h dX5_nameOf_1 (t0 := 44) (t1 := 47) (t2 := 50) (t3 := 53) (t4 := 56) (t5 := 59) (t6 := 62) (td := 65) (by decide) (by decide) (by decide) (by decide) (by decide) (by decide) (by decide) (by decide) (fun c_1 => ?_) (fun c_1 => ?_) (fun c_1 => ?_) (fun c_1 => ?_) (fun c_1 => ?_) (fun c_1 => ?_) (fun c_1 => ?_) (fun c_1 => ?_)
  ·
    refine ca_ldcs h (i := 102) (List.mem_of_getElem? (i := 12) rfl) dX5_nameOf_44 ?_
    refine ca_areturn h hR dX5_nameOf_46 ?_
    exact ⟨by rw [← e_nm_j j hj]; simp [e_nm, c_1], rfl, rfl⟩
  ·
    refine ca_ldcs h (i := 104) (List.mem_of_getElem? (i := 13) rfl) dX5_nameOf_47 ?_
    refine ca_areturn h hR dX5_nameOf_49 ?_
    exact ⟨by rw [← e_nm_j j hj]; simp [e_nm, c_1], rfl, rfl⟩
  ·
    refine ca_ldcs h (i := 106) (List.mem_of_getElem? (i := 14) rfl) dX5_nameOf_50 ?_
    refine ca_areturn h hR dX5_nameOf_52 ?_
    exact ⟨by rw [← e_nm_j j hj]; simp [e_nm, c_1], rfl, rfl⟩
  ·
    refine ca_ldcs h (i := 108) (List.mem_of_getElem? (i := 15) rfl) dX5_nameOf_53 ?_
    refine ca_areturn h hR dX5_nameOf_55 ?_
    exact ⟨by rw [← e_nm_j j hj]; simp [e_nm, c_1], rfl, rfl⟩
  ·
    refine ca_ldcs h (i := 110) (List.mem_of_getElem? (i := 16) rfl) dX5_nameOf_56 ?_
    refine ca_areturn h hR dX5_nameOf_58 ?_
    exact ⟨by rw [← e_nm_j j hj]; simp [e_nm, c_1], rfl, rfl⟩
  ·
    refine ca_ldcs h (i := 112) (List.mem_of_getElem? (i := 17) rfl) dX5_nameOf_59 ?_
    refine ca_areturn h hR dX5_nameOf_61 ?_
    exact ⟨by rw [← e_nm_j j hj]; simp [e_nm, c_1], rfl, rfl⟩
  ·
    refine ca_ldcs h (i := 114) (List.mem_of_getElem? (i := 18) rfl) dX5_nameOf_62 ?_
    refine ca_areturn h hR dX5_nameOf_64 ?_
    exact ⟨by rw [← e_nm_j j hj]; simp [e_nm, c_1], rfl, rfl⟩
  ·
    refine ca_ldcs h (i := 116) (List.mem_of_getElem? (i := 19) rfl) dX5_nameOf_65 ?_
    refine ca_areturn h hR dX5_nameOf_67 ?_
    exact ⟨by rw [← e_nm_j j hj]; simp [e_nm, c_1], rfl, rfl⟩
set_option maxHeartbeats 100000 in
theorem c_X5_everyMobile {l : Launch} {E : ch_E} {S : ch_S} {μ : ch_M} {k : Nat} (hs : ch_Std E S) (hr : ch_Rd S 36 k) (hk : k < 15) : ch_C E l yX5_everyMobile cX5_everyMobile 1 (some FieldType.int) 1 0 0 S μ [.ref (S.1 15 36 0)] (ch_F (some (.int (e_all (μ k)))) S (μ)) := by
  refine ch_enter rfl rfl ?_
  intro X hl0 h hG hR hnm
  have h : ch_H X E RX5 cX5_everyMobile 1 := h
  show ch_W X E 1 S μ 0 0 0 [(0, .ref (S.1 15 36 0))] []
  refine ca_iconst h dX5_everyMobile_0 ik_1 ?_
  refine ca_aload_nr h dX5_everyMobile_1 rfl ?_
  refine rd_n5 h hr dX5_everyMobile_2 ?_
  refine gi_X5_85 h (hs.1 _ _ _ ⟨hk, rfl⟩) dX5_everyMobile_5 ?_
  refine ca_ishl h dX5_everyMobile_8 ?_
  refine ca_iconst h dX5_everyMobile_9 ik_1 ?_
  refine ca_isub h dX5_everyMobile_10 ?_
  refine ca_ireturn h hR rfl dX5_everyMobile_11 ?_
  exact ⟨rfl, rfl, rfl⟩
set_option maxHeartbeats 100000 in
theorem c_X5_firstOf {l : Launch} {E : ch_E} {S : ch_S} {μ : ch_M} {k : Nat} (hs : ch_Std E S) (hr : ch_Rd S 36 k) (hk : k < 15) (hm : k_mc (μ k) ≤ 12) {x : Int32} : ch_C E l yX5_firstOf cX5_firstOf 3 (some FieldType.int) 1 0 0 S μ [.ref (S.1 15 36 0), .int x] (ch_F (some (.int (e_fst (μ k) x))) S (μ)) := by
  refine ch_enter rfl rfl ?_
  intro X hl0 h hG hR hnm
  have h : ch_H X E RX5 cX5_firstOf 3 := h
  show ch_W X E 3 S μ 0 0 0 [(0, .ref (S.1 15 36 0)), (1, .int x)] []
  refine ca_iconst h dX5_firstOf_0 ik_0 ?_
  refine ca_istore_n h dX5_firstOf_1 rfl ?_
  have loop_2 : ∀ (jj n : Nat), n + jj = k_mc (μ k) → ∀ (x2 : Int32) (e2 : x2 = nI n) (hx : e_fst (μ k) x = kq (fun i => decide (¬ x &&& e_bit i = 0)) (k_mc (μ k)) jj), ch_W X E 3 S μ 0 0 2 [(0, .ref (S.1 15 36 0)), (1, .int x), (2, .int x2)] [] := by
    intro jj
    induction jj with
    | zero =>
      intro n hn x2 e2 hx
      have hn : n = k_mc (μ k) := by omega
      subst e2
      refine ca_iload_n h dX5_firstOf_2 rfl ?_
      refine ca_aload_nr h dX5_firstOf_3 rfl ?_
      refine rd_n5 h hr dX5_firstOf_4 ?_
      refine gi_X5_85 h (hs.1 _ _ _ ⟨hk, rfl⟩) dX5_firstOf_7 ?_
      refine ca_icmp_ge (tgt := 29) h dX5_firstOf_10 (by decide) (fun c_10 => ?_) (fun c_10 => ?_)
      ·
        refine ca_iconst h dX5_firstOf_29 ik_m1 ?_
        refine ca_ireturn h hR rfl dX5_firstOf_30 ?_
        exact ⟨by rw [hx]; rfl, rfl, rfl⟩
      · exact absurd c_10 (lt_no rfl hn)
    | succ jj ih_2 =>
      intro n hn x2 e2 hx
      have hn1 : n < k_mc (μ k) := by omega
      subst e2
      refine ca_iload_n h dX5_firstOf_2 rfl ?_
      refine ca_aload_nr h dX5_firstOf_3 rfl ?_
      refine rd_n5 h hr dX5_firstOf_4 ?_
      refine gi_X5_85 h (hs.1 _ _ _ ⟨hk, rfl⟩) dX5_firstOf_7 ?_
      refine ca_icmp_ge (tgt := 29) h dX5_firstOf_10 (by decide) (fun c_10 => ?_) (fun c_10 => ?_)
      · exact absurd (lt_yes rfl hn1) c_10
      ·
        refine ca_iload_n h dX5_firstOf_13 rfl ?_
        refine ca_iconst h dX5_firstOf_14 ik_1 ?_
        refine ca_iload_n h dX5_firstOf_15 rfl ?_
        refine ca_ishl h dX5_firstOf_16 ?_
        refine ca_iand h dX5_firstOf_17 ?_
        refine ca_if_eq (tgt := 23) h dX5_firstOf_18 (by decide) (fun c_18 => ?_) (fun c_18 => ?_)
        ·
          refine ca_iinc h dX5_firstOf_23 rfl ik_1 rfl ?_
          refine ca_goto (tgt := 2) h dX5_firstOf_26 (by decide) ?_
          refine ca_pick [1, 2, 0] rfl ?_
          exact ih_2 (n + 1) (by omega) _ (nI_1 n) (by rw [hx, kq_no hn (fun z => (of_decide_eq_true z) c_18)])
        ·
          refine ca_iload_n h dX5_firstOf_21 rfl ?_
          refine ca_ireturn h hR rfl dX5_firstOf_22 ?_
          exact ⟨by rw [hx, kq_yes hn (decide_eq_true c_18)], rfl, rfl⟩
  refine ca_pick [1, 2, 0] rfl ?_
  exact loop_2 _ 0 (Nat.zero_add _) _ rfl rfl
set_option maxHeartbeats 100000 in
theorem c_X5_valueFor {l : Launch} {E : ch_E} {S : ch_S} {μ : ch_M} {k : Nat} (hs : ch_Std E S) (hr : ch_Rd S 36 k) (hk : k < 15) {i : Nat} (hi : i < 12) {v : Int32} : ch_C E l yX5_valueFor cX5_valueFor 4 (some FieldType.int) 2 0 0 S μ [.ref (S.1 15 36 0), .int v, .int (nI i)] (ch_F (some (.int (e_vf (μ k) v i))) S (μ)) := by
  refine ch_enter rfl rfl ?_
  intro X hl0 h hG hR hnm
  have h : ch_H X E RX5 cX5_valueFor 4 := h
  show ch_W X E 4 S μ 0 0 0 [(0, .ref (S.1 15 36 0)), (1, .int v), (2, .int (nI i))] []
  refine ca_iload_n h dX5_valueFor_0 rfl ?_
  refine ca_if_lt (tgt := 6) h dX5_valueFor_1 (by decide) (fun c_1 => ?_) (fun c_1 => ?_)
  ·
    refine ca_aload_nr h dX5_valueFor_6 rfl ?_
    refine rd_n5 h hr dX5_valueFor_7 ?_
    refine ca_iload_n h dX5_valueFor_10 rfl ?_
    refine ca_vr h hG ml_X5_118 (c_X3_mobileJ hs hk hi) (ci := 3) rfl rfl rfl (hs.1 _ _ _ ⟨hk, rfl⟩) rfl rfl rfl rfl ⟨Nat.le_refl _, Nat.le_refl _⟩ rfl dX5_valueFor_11 ?_
    refine ca_astore_n h dX5_valueFor_14 rfl ?_
    refine ca_iconst h dX5_valueFor_15 ik_m1 ?_
    refine ca_iload_n h dX5_valueFor_16 rfl ?_
    refine ca_isub h dX5_valueFor_17 ?_
    refine ca_tab7 h dX5_valueFor_18 (t0 := 60) (t1 := 62) (t2 := 67) (t3 := 72) (t4 := 77) (t5 := 95) (t6 := 112) (td := 121) (by decide) (by decide) (by decide) (by decide) (by decide) (by decide) (by decide) (by decide) (fun c_18 => ?_) (fun c_18 => ?_) (fun c_18 => ?_) (fun c_18 => ?_) (fun c_18 => ?_) (fun c_18 => ?_) (fun c_18 => ?_) (fun c_18 => ?_)
    ·
      refine ca_iload_n h dX5_valueFor_60 rfl ?_
      refine ca_ireturn h hR rfl dX5_valueFor_61 ?_
      exact ⟨by unfold e_vf; rw [if_neg (fun z => z c_1)]; simp [c_1, c_18], rfl, rfl⟩
    ·
      refine ca_aload_nr h dX5_valueFor_62 rfl ?_
      refine gi_X5_122 h (hs.1 _ _ _ (vM hk (show i < 13 by omega))) dX5_valueFor_63 ?_
      refine ca_ireturn h hR rfl dX5_valueFor_66 ?_
      exact ⟨by unfold e_vf; rw [if_neg (fun z => z c_1)]; simp [c_1, c_18], rfl, rfl⟩
    ·
      refine ca_aload_nr h dX5_valueFor_67 rfl ?_
      refine gi_X5_126 h (hs.1 _ _ _ (vM hk (show i < 13 by omega))) dX5_valueFor_68 ?_
      refine ca_ireturn h hR rfl dX5_valueFor_71 ?_
      exact ⟨by unfold e_vf; rw [if_neg (fun z => z c_1)]; simp [c_1, c_18], rfl, rfl⟩
    ·
      refine ca_aload_nr h dX5_valueFor_72 rfl ?_
      refine gi_X5_128 h (hs.1 _ _ _ (vM hk (show i < 13 by omega))) dX5_valueFor_73 ?_
      refine ca_ireturn h hR rfl dX5_valueFor_76 ?_
      exact ⟨by unfold e_vf; rw [if_neg (fun z => z c_1)]; simp [c_1, c_18], rfl, rfl⟩
    ·
      refine ca_aload_nr h dX5_valueFor_77 rfl ?_
      refine gi_X5_130 h (hs.1 _ _ _ (vM hk (show i < 13 by omega))) dX5_valueFor_78 ?_
      refine ca_iconst h dX5_valueFor_81 ik_m1 ?_
      refine ca_icmp_ne (tgt := 90) h dX5_valueFor_82 (by decide) (fun c_82 => ?_) (fun c_82 => ?_)
      ·
        refine ca_aload_nr h dX5_valueFor_90 rfl ?_
        refine gi_X5_130 h (hs.1 _ _ _ (vM hk (show i < 13 by omega))) dX5_valueFor_91 ?_
        refine ca_ireturn h hR rfl dX5_valueFor_94 ?_
        exact ⟨by unfold e_vf; rw [if_neg (fun z => z c_1)]; simp [c_1, c_18, c_82], rfl, rfl⟩
      ·
        refine ca_bipush h dX5_valueFor_85 bk_9 ?_
        refine ca_goto (tgt := 94) h dX5_valueFor_87 (by decide) ?_
        refine ca_ireturn h hR rfl dX5_valueFor_94 ?_
        exact ⟨by unfold e_vf; rw [if_neg (fun z => z c_1)]; simp [c_1, c_18, c_82], rfl, rfl⟩
    ·
      refine ca_aload_nr h dX5_valueFor_95 rfl ?_
      refine gi_X5_128 h (hs.1 _ _ _ (vM hk (show i < 13 by omega))) dX5_valueFor_96 ?_
      refine ca_iconst h dX5_valueFor_99 ik_1 ?_
      refine ca_icmp_ne (tgt := 110) h dX5_valueFor_100 (by decide) (fun c_100 => ?_) (fun c_100 => ?_)
      ·
        refine ca_iconst h dX5_valueFor_110 ik_0 ?_
        refine ca_ireturn h hR rfl dX5_valueFor_111 ?_
        exact ⟨by unfold e_vf; rw [if_neg (fun z => z c_1)]; simp [c_1, c_18, c_100], rfl, rfl⟩
      ·
        refine ca_aload_nr h dX5_valueFor_103 rfl ?_
        refine gi_X5_133 h (hs.1 _ _ _ (vM hk (show i < 13 by omega))) dX5_valueFor_104 ?_
        refine ca_goto (tgt := 111) h dX5_valueFor_107 (by decide) ?_
        refine ca_ireturn h hR rfl dX5_valueFor_111 ?_
        exact ⟨by unfold e_vf; rw [if_neg (fun z => z c_1)]; simp [c_1, c_18, c_100], rfl, rfl⟩
    ·
      refine ca_aload_nr h dX5_valueFor_112 rfl ?_
      refine ca_aload_nr h dX5_valueFor_113 rfl ?_
      refine gi_X5_130 h (hs.1 _ _ _ (vM hk (show i < 13 by omega))) dX5_valueFor_114 ?_
      refine ca_vi h hG ml_X5_136 (c_X2_reportsOf hs hk (by omega)) (ci := 2) rfl rfl rfl (hs.1 _ _ _ (vM hk (show i < 13 by omega))) rfl rfl rfl rfl ⟨Nat.le_refl _, Nat.le_refl _⟩ rfl dX5_valueFor_117 ?_
      refine ca_ireturn h hR rfl dX5_valueFor_120 ?_
      exact ⟨by unfold e_vf; rw [if_neg (fun z => z c_1)]; simp [c_1, c_18], rfl, rfl⟩
    ·
      refine ca_aload_nr h dX5_valueFor_121 rfl ?_
      refine gi_X5_139 h (hs.1 _ _ _ (vM hk (show i < 13 by omega))) dX5_valueFor_122 ?_
      refine ca_iconst h dX5_valueFor_125 ik_m1 ?_
      refine ca_icmp_ne (tgt := 133) h dX5_valueFor_126 (by decide) (fun c_126 => ?_) (fun c_126 => ?_)
      ·
        refine ca_iconst h dX5_valueFor_133 ik_1 ?_
        refine ca_ireturn h hR rfl dX5_valueFor_134 ?_
        exact ⟨by unfold e_vf; rw [if_neg (fun z => z c_1)]; simp [c_1, c_18, c_126], rfl, rfl⟩
      ·
        refine ca_iconst h dX5_valueFor_129 ik_0 ?_
        refine ca_goto (tgt := 134) h dX5_valueFor_130 (by decide) ?_
        refine ca_ireturn h hR rfl dX5_valueFor_134 ?_
        exact ⟨by unfold e_vf; rw [if_neg (fun z => z c_1)]; simp [c_1, c_18, c_126], rfl, rfl⟩
  ·
    refine ca_iload_n h dX5_valueFor_4 rfl ?_
    refine ca_ireturn h hR rfl dX5_valueFor_5 ?_
    exact ⟨by unfold e_vf; simp [c_1], rfl, rfl⟩
set_option maxHeartbeats 100000 in
theorem c_X5_seeValue {l : Launch} {E : ch_E} {S : ch_S} {μ : ch_M} {k : Nat} (hs : ch_Std E S) (hr : ch_Rd S 36 k) (hk : k < 15) (hq : k_tx (μ 15)) : ch_C E l yX5_seeValue cX5_seeValue 2 (some FieldType.int) 6 0 0 S μ [.ref (S.1 15 36 0)] (ch_F (some (.int ((e_sv (μ 15)).1))) S (up μ 15 (e_sv (μ 15)).2)) := by
  refine ch_enter rfl rfl ?_
  intro X hl0 h hG hR hnm
  have h : ch_H X E RX5 cX5_seeValue 2 := h
  show ch_W X E 2 S μ 0 0 0 [(0, .ref (S.1 15 36 0))] []
  refine ca_iconst h dX5_seeValue_0 ik_0 ?_
  refine ca_istore_n h dX5_seeValue_1 rfl ?_
  have loop_2 : ∀ (jj n : Nat), n + jj = 8 → ∀ (x1 : Int32) (e1 : x1 = nI n) (hx : e_sv (μ 15) = e_svL (μ 15) jj), ch_W X E 2 S μ 0 0 2 [(0, .ref (S.1 15 36 0)), (1, .int x1)] [] := by
    intro jj
    induction jj with
    | zero =>
      intro n hn x1 e1 hx
      have hn : n = 8 := by omega
      subst e1
      refine ca_iload_n h dX5_seeValue_2 rfl ?_
      refine ca_bipush h dX5_seeValue_3 bk_8 ?_
      refine ca_icmp_ge (tgt := 32) h dX5_seeValue_5 (by decide) (fun c_5 => ?_) (fun c_5 => ?_)
      ·
        refine ca_aload_nr h dX5_seeValue_32 rfl ?_
        refine rd_t5 h hr dX5_seeValue_33 ?_
        refine ca_iconst h dX5_seeValue_36 ik_0 ?_
        refine ca_sipush h dX5_seeValue_37 sk_9999 ?_
        refine ca_vi h hG ml_X5_99 (c_X10_seeNumber hs hq) (ci := 10) rfl rfl rfl (hs.1 _ _ _ ⟨rfl, rfl⟩) rfl rfl rfl rfl ⟨Nat.le_refl _, Nat.le_refl _⟩ rfl dX5_seeValue_40 ?_
        refine ca_ireturn h hR rfl dX5_seeValue_43 ?_
        exact ⟨by rw [hx]; rfl, rfl, by rw [hx]; rfl⟩
      · exact absurd c_5 (by rw [hn]; decide)
    | succ jj ih_2 =>
      intro n hn x1 e1 hx
      have hn1 : n < 8 := by omega
      subst e1
      refine ca_iload_n h dX5_seeValue_2 rfl ?_
      refine ca_bipush h dX5_seeValue_3 bk_8 ?_
      refine ca_icmp_ge (tgt := 32) h dX5_seeValue_5 (by decide) (fun c_5 => ?_) (fun c_5 => ?_)
      · exact absurd (nI_lt (b := 8) hn1 (by decide)) c_5
      ·
        refine ca_aload_nr h dX5_seeValue_8 rfl ?_
        refine rd_t5 h hr dX5_seeValue_9 ?_
        refine ca_iload_n h dX5_seeValue_12 rfl ?_
        refine ca_sr h hG ms_X5_95 (c_X5_nameOf hn1) rfl rfl rfl rfl ⟨Nat.le_refl _, Nat.le_refl _⟩ rfl dX5_seeValue_13 ?_
        refine ca_vi h hG ml_X5_21 (c_X10_is hs hq (ch_nm_lt n hn1)) (ci := 10) rfl rfl rfl (hs.1 _ _ _ ⟨rfl, rfl⟩) rfl rfl rfl rfl ⟨Nat.le_refl _, Nat.le_refl _⟩ rfl dX5_seeValue_16 ?_
        refine ca_if_eq (tgt := 26) h dX5_seeValue_19 (by decide) (fun c_19 => ?_) (fun c_19 => ?_)
        ·
          refine ca_iinc h dX5_seeValue_26 rfl ik_1 rfl ?_
          refine ca_goto (tgt := 2) h dX5_seeValue_29 (by decide) ?_
          refine ca_pick [1, 0] rfl ?_
          exact ih_2 (n + 1) (by omega) _ (nI_1 n) (by rw [hx, e_svL, show 8 - (jj + 1) = n by omega, if_neg (fun z => bI_n0.mpr z c_19)])
        ·
          refine ca_iconst h dX5_seeValue_22 ik_m1 ?_
          refine ca_iload_n h dX5_seeValue_23 rfl ?_
          refine ca_isub h dX5_seeValue_24 ?_
          refine ca_ireturn h hR rfl dX5_seeValue_25 ?_
          have e1 : e_sv (μ 15) = (-1 - nI n, μ 15) := by rw [hx, e_svL, show 8 - (jj + 1) = n by omega, if_pos (bI_n0.mp c_19)]
          exact ⟨by rw [e1], rfl, by rw [e1, up_id]⟩
  refine ca_pick [1, 0] rfl ?_
  exact loop_2 _ 0 (Nat.zero_add _) _ rfl rfl
set_option maxHeartbeats 100000 in
theorem c_X5_comparison {l : Launch} {E : ch_E} {S : ch_S} {μ : ch_M} {k : Nat} (hs : ch_Std E S) (hr : ch_Rd S 36 k) (hk : k < 15) (hq : k_tx (μ 15)) (hm : k_mc (μ k) ≤ 12) : ch_C E l yX5_comparison cX5_comparison 9 (some FieldType.int) 7 0 0 S μ [.ref (S.1 15 36 0)] (ch_F (some (.int ((e_cmp (μ k) (μ 15)).1))) S (up μ 15 (e_cmp (μ k) (μ 15)).2)) := by
  refine ch_enter rfl rfl ?_
  intro X hl0 h hG hR hnm
  have h : ch_H X E RX5 cX5_comparison 9 := h
  have hk15 : k ≠ 15 := by omega
  show ch_W X E 9 S μ 0 0 0 [(0, .ref (S.1 15 36 0))] []
  refine ca_aload_nr h dX5_comparison_0 rfl ?_
  refine ca_vi h hG ml_X5_76 (c_X5_seeValue hs hr hk hq) (ci := 5) rfl rfl rfl hr.1 rfl rfl rfl rfl ⟨Nat.le_refl _, Nat.le_refl _⟩ rfl dX5_comparison_1 ?_
  refine ca_istore_n h dX5_comparison_4 rfl ?_
  refine ca_aload_nr h dX5_comparison_5 rfl ?_
  refine rd_t5 h hr dX5_comparison_6 ?_
  refine ca_vv h hG ml_X5_33 (c_X10_advance hs (by rw [up_s]; exact (e_sv_tx hq).1)) (ci := 10) rfl rfl rfl (hs.1 _ _ _ ⟨rfl, rfl⟩) rfl rfl rfl rfl ⟨Nat.le_refl _, Nat.le_refl _⟩ rfl dX5_comparison_9 ?_
  obtain ⟨q1, hq1⟩ : ∃ z, z = e_q1 (μ 15) := ⟨_, rfl⟩
  have g1 : k_tx q1 := by rw [hq1]; exact k_tx_adv (e_sv_tx hq)
  obtain ⟨vl, hvl⟩ : ∃ z, z = (e_sv (μ 15)).1 := ⟨_, rfl⟩
  rw [← hvl]
  obtain ⟨b1, hb1⟩ : ∃ z, z = t_is q1 19 := ⟨_, rfl⟩
  obtain ⟨b2, hb2⟩ : ∃ z, z = t_is q1 20 := ⟨_, rfl⟩
  refine ca_mem (μ'' := up μ 15 q1) (by rw [hq1]; simp only [up_s, up_up]; rfl) ?_
  refine ca_aload_nr h dX5_comparison_12 rfl ?_
  refine rd_t5 h hr dX5_comparison_13 ?_
  refine ca_ldcs h (i := 79) (List.mem_of_getElem? (i := 20) rfl) dX5_comparison_16 ?_
  refine ca_vi h hG ml_X5_21 (c_X10_is hs (by rw [up_s]; exact g1) (by decide)) (ci := 10) rfl rfl rfl (hs.1 _ _ _ ⟨rfl, rfl⟩) rfl rfl rfl rfl ⟨Nat.le_refl _, Nat.le_refl _⟩ rfl dX5_comparison_18 ?_
  refine ca_top (show _ = bI (t_is q1 19) by rw [up_s]) ?_
  refine ca_istore_n h dX5_comparison_21 rfl ?_
  refine ca_aload_nr h dX5_comparison_22 rfl ?_
  refine rd_t5 h hr dX5_comparison_23 ?_
  refine ca_ldcs h (i := 81) (List.mem_of_getElem? (i := 21) rfl) dX5_comparison_26 ?_
  refine ca_vi h hG ml_X5_21 (c_X10_is hs (by rw [up_s]; exact g1) (by decide)) (ci := 10) rfl rfl rfl (hs.1 _ _ _ ⟨rfl, rfl⟩) rfl rfl rfl rfl ⟨Nat.le_refl _, Nat.le_refl _⟩ rfl dX5_comparison_28 ?_
  refine ca_top (show _ = bI (t_is q1 20) by rw [up_s]) ?_
  refine ca_istore_n h dX5_comparison_31 rfl ?_
  have K_60 : ∀ (_ : True), ch_W X E 9 S (up μ 15 (e_q2 q1)) 0 0 60 [(0, .ref (S.1 15 36 0)), (1, .int vl), (2, .int (bI (t_is q1 19))), (3, .int (bI (t_is q1 20)))] [] := by
    intro _
    refine ca_aload_nr h dX5_comparison_60 rfl ?_
    refine rd_t5 h hr dX5_comparison_61 ?_
    refine ca_vv h hG ml_X5_33 (c_X10_advance hs (by rw [up_s]; exact (e_q2_tx g1).1)) (ci := 10) rfl rfl rfl (hs.1 _ _ _ ⟨rfl, rfl⟩) rfl rfl rfl rfl ⟨Nat.le_refl _, Nat.le_refl _⟩ rfl dX5_comparison_64 ?_
    obtain ⟨q3, hq3⟩ : ∃ z, z = e_q3 (μ 15) := ⟨_, rfl⟩
    have g3 : k_tx q3 := by rw [hq3]; exact e_q3_tx hq
    obtain ⟨vr, hvr⟩ : ∃ z, z = (e_sv q3).1 := ⟨_, rfl⟩
    refine ca_mem (μ'' := up μ 15 q3) (by rw [hq3]; simp only [up_s, up_up]; unfold e_q3; rw [hq1]) ?_
    refine ca_aload_nr h dX5_comparison_67 rfl ?_
    refine ca_vi h hG ml_X5_76 (c_X5_seeValue hs hr hk (by rw [up_s]; exact g3)) (ci := 5) rfl rfl rfl hr.1 rfl rfl rfl rfl ⟨Nat.le_refl _, Nat.le_refl _⟩ rfl dX5_comparison_68 ?_
    refine ca_top (show _ = vr by rw [up_s, hvr]) ?_
    refine ca_istore h dX5_comparison_71 rfl ?_
    refine ca_aload_nr h dX5_comparison_73 rfl ?_
    refine rd_t5 h hr dX5_comparison_74 ?_
    refine ca_vv h hG ml_X5_33 (c_X10_advance hs (by rw [up_s]; exact (e_sv_tx g3).1)) (ci := 10) rfl rfl rfl (hs.1 _ _ _ ⟨rfl, rfl⟩) rfl rfl rfl rfl ⟨Nat.le_refl _, Nat.le_refl _⟩ rfl dX5_comparison_77 ?_
    refine ca_mem (μ'' := up μ 15 (t_adv (e_sv q3).2)) (by simp only [up_s, up_up]) ?_
    refine ca_iconst h dX5_comparison_80 ik_0 ?_
    refine ca_istore h dX5_comparison_81 rfl ?_
    refine ca_iconst h dX5_comparison_83 ik_0 ?_
    refine ca_istore h dX5_comparison_84 rfl ?_
    have loop_86 : ∀ (jj n : Nat), n + jj = k_mc (μ k) → ∀ (x5 : Int32) (e5 : x5 = e_hold (μ k) (t_is q1 19) (t_is q1 20) vl vr n) (x6 : Int32) (e6 : x6 = nI n), ch_W X E 9 S (up μ 15 (t_adv (e_sv q3).2)) 0 0 86 [(0, .ref (S.1 15 36 0)), (1, .int vl), (2, .int (bI (t_is q1 19))), (3, .int (bI (t_is q1 20))), (4, .int vr), (5, .int x5), (6, .int x6)] [] := by
      intro jj
      induction jj with
      | zero =>
        intro n hn x5 e5 x6 e6
        have hn : n = k_mc (μ k) := by omega
        subst e5 e6
        refine ca_iload h dX5_comparison_86 rfl ?_
        refine ca_aload_nr h dX5_comparison_88 rfl ?_
        refine rd_n5 h hr dX5_comparison_89 ?_
        refine gi_X5_85 h (hs.1 _ _ _ ⟨hk, rfl⟩) dX5_comparison_92 ?_
        refine ca_icmp_ge (tgt := 167) h dX5_comparison_95 (by decide) (fun c_95 => ?_) (fun c_95 => ?_)
        ·
          refine ca_iload h dX5_comparison_167 rfl ?_
          refine ca_ireturn h hR rfl dX5_comparison_169 ?_
          have e1 : e_cmp (μ k) (μ 15) = (e_hold (μ k) (t_is q1 19) (t_is q1 20) vl vr (k_mc (μ k)), t_adv (e_sv q3).2) := by unfold e_cmp; rw [← hq1, ← hq3, ← hvl, ← hvr]
          exact ⟨by rw [e1, hn], rfl, by rw [e1]⟩
        · exact absurd c_95 (by rw [up_n hk15]; exact lt_no rfl hn)
      | succ jj ih_86 =>
        intro n hn x5 e5 x6 e6
        have hn1 : n < k_mc (μ k) := by omega
        subst e5 e6
        refine ca_iload h dX5_comparison_86 rfl ?_
        refine ca_aload_nr h dX5_comparison_88 rfl ?_
        refine rd_n5 h hr dX5_comparison_89 ?_
        refine gi_X5_85 h (hs.1 _ _ _ ⟨hk, rfl⟩) dX5_comparison_92 ?_
        refine ca_icmp_ge (tgt := 167) h dX5_comparison_95 (by decide) (fun c_95 => ?_) (fun c_95 => ?_)
        · exact absurd (by rw [up_n hk15]; exact lt_yes rfl hn1) c_95
        ·
          refine ca_aload_nr h dX5_comparison_98 rfl ?_
          refine ca_iload_n h dX5_comparison_99 rfl ?_
          refine ca_iload h dX5_comparison_100 rfl ?_
          refine ca_vi h hG ml_X5_91 (c_X5_valueFor hs hr hk (i := n) (by omega)) (ci := 5) rfl rfl rfl hr.1 rfl rfl rfl rfl ⟨Nat.le_refl _, Nat.le_refl _⟩ rfl dX5_comparison_102 ?_
          refine ca_top (show _ = e_vf (μ k) vl n by rw [up_n hk15]) ?_
          refine ca_istore h dX5_comparison_105 rfl ?_
          refine ca_aload_nr h dX5_comparison_107 rfl ?_
          refine ca_iload h dX5_comparison_108 rfl ?_
          refine ca_iload h dX5_comparison_110 rfl ?_
          refine ca_vi h hG ml_X5_91 (c_X5_valueFor hs hr hk (i := n) (by omega)) (ci := 5) rfl rfl rfl hr.1 rfl rfl rfl rfl ⟨Nat.le_refl _, Nat.le_refl _⟩ rfl dX5_comparison_112 ?_
          refine ca_top (show _ = e_vf (μ k) vr n by rw [up_n hk15]) ?_
          refine ca_istore h dX5_comparison_115 rfl ?_
          refine ca_iload_n h dX5_comparison_117 rfl ?_
          refine ca_if_eq (tgt := 131) h dX5_comparison_118 (by decide) (fun c_118 => ?_) (fun c_118 => ?_)
          ·
            refine ca_iload_n h dX5_comparison_131 rfl ?_
            refine ca_if_eq (tgt := 145) h dX5_comparison_132 (by decide) (fun c_132 => ?_) (fun c_132 => ?_)
            ·
              refine ca_iload h dX5_comparison_145 rfl ?_
              refine ca_iload h dX5_comparison_147 rfl ?_
              refine ca_icmp_le (tgt := 161) h dX5_comparison_149 (by decide) (fun c_149 => ?_) (fun c_149 => ?_)
              ·
                refine ca_iinc h dX5_comparison_161 rfl ik_1 rfl ?_
                refine ca_goto (tgt := 86) h dX5_comparison_164 (by decide) ?_
                refine ca_pick [3, 4, 5, 6, 7, 8, 0] rfl ?_
                exact ih_86 (n + 1) (by omega) _ (by unfold e_hold; rw [kf_s, if_neg (by simp [e_c, bI_0.mp c_118, bI_0.mp c_132, c_149])]) _ (nI_1 n)
              ·
                refine ca_iload h dX5_comparison_152 rfl ?_
                refine ca_iconst h dX5_comparison_154 ik_1 ?_
                refine ca_iload h dX5_comparison_155 rfl ?_
                refine ca_ishl h dX5_comparison_157 ?_
                refine ca_ior h dX5_comparison_158 ?_
                refine ca_istore h dX5_comparison_159 rfl ?_
                refine ca_iinc h dX5_comparison_161 rfl ik_1 rfl ?_
                refine ca_goto (tgt := 86) h dX5_comparison_164 (by decide) ?_
                refine ca_pick [4, 5, 6, 7, 8, 1, 0] rfl ?_
                exact ih_86 (n + 1) (by omega) _ (by unfold e_hold; rw [kf_s, if_pos (by simp [e_c, bI_0.mp c_118, bI_0.mp c_132, c_149])]; rfl) _ (nI_1 n)
            ·
              refine ca_iload h dX5_comparison_135 rfl ?_
              refine ca_iload h dX5_comparison_137 rfl ?_
              refine ca_icmp_ne (tgt := 161) h dX5_comparison_139 (by decide) (fun c_139 => ?_) (fun c_139 => ?_)
              ·
                refine ca_iinc h dX5_comparison_161 rfl ik_1 rfl ?_
                refine ca_goto (tgt := 86) h dX5_comparison_164 (by decide) ?_
                refine ca_pick [3, 4, 5, 6, 7, 8, 0] rfl ?_
                exact ih_86 (n + 1) (by omega) _ (by unfold e_hold; rw [kf_s, if_neg (by simp [e_c, bI_0.mp c_118, bI_n0.mp c_132, c_139])]) _ (nI_1 n)
              ·
                refine ca_goto (tgt := 152) h dX5_comparison_142 (by decide) ?_
                refine ca_iload h dX5_comparison_152 rfl ?_
                refine ca_iconst h dX5_comparison_154 ik_1 ?_
                refine ca_iload h dX5_comparison_155 rfl ?_
                refine ca_ishl h dX5_comparison_157 ?_
                refine ca_ior h dX5_comparison_158 ?_
                refine ca_istore h dX5_comparison_159 rfl ?_
                refine ca_iinc h dX5_comparison_161 rfl ik_1 rfl ?_
                refine ca_goto (tgt := 86) h dX5_comparison_164 (by decide) ?_
                refine ca_pick [4, 5, 6, 7, 8, 1, 0] rfl ?_
                exact ih_86 (n + 1) (by omega) _ (by unfold e_hold; rw [kf_s, if_pos (by simp [e_c, bI_0.mp c_118, bI_n0.mp c_132, c_139])]; rfl) _ (nI_1 n)
          ·
            refine ca_iload h dX5_comparison_121 rfl ?_
            refine ca_iload h dX5_comparison_123 rfl ?_
            refine ca_icmp_ge (tgt := 161) h dX5_comparison_125 (by decide) (fun c_125 => ?_) (fun c_125 => ?_)
            ·
              refine ca_iinc h dX5_comparison_161 rfl ik_1 rfl ?_
              refine ca_goto (tgt := 86) h dX5_comparison_164 (by decide) ?_
              refine ca_pick [3, 4, 5, 6, 7, 8, 0] rfl ?_
              exact ih_86 (n + 1) (by omega) _ (by unfold e_hold; rw [kf_s, if_neg (by simp [e_c, bI_n0.mp c_118, c_125])]) _ (nI_1 n)
            ·
              refine ca_goto (tgt := 152) h dX5_comparison_128 (by decide) ?_
              refine ca_iload h dX5_comparison_152 rfl ?_
              refine ca_iconst h dX5_comparison_154 ik_1 ?_
              refine ca_iload h dX5_comparison_155 rfl ?_
              refine ca_ishl h dX5_comparison_157 ?_
              refine ca_ior h dX5_comparison_158 ?_
              refine ca_istore h dX5_comparison_159 rfl ?_
              refine ca_iinc h dX5_comparison_161 rfl ik_1 rfl ?_
              refine ca_goto (tgt := 86) h dX5_comparison_164 (by decide) ?_
              refine ca_pick [4, 5, 6, 7, 8, 1, 0] rfl ?_
              exact ih_86 (n + 1) (by omega) _ (by unfold e_hold; rw [kf_s, if_pos (by simp [e_c, bI_n0.mp c_118, c_125])]; rfl) _ (nI_1 n)
    refine ca_pick [3, 4, 5, 6, 2, 1, 0] rfl ?_
    exact loop_86 _ 0 (Nat.zero_add _) _ rfl _ rfl
  refine ca_iload_n h dX5_comparison_32 rfl ?_
  refine ca_if_ne (tgt := 60) h dX5_comparison_33 (by decide) (fun c_33 => ?_) (fun c_33 => ?_)
  ·
    refine ca_pick [3, 2, 1, 0] rfl ?_
    have c9 := c_33
    refine ca_mem (μ'' := up μ 15 (e_q2 q1)) (by unfold e_q2; rw [if_pos (bI_n0.mp c9)]) ?_
    exact K_60 trivial
  ·
    refine ca_iload_n h dX5_comparison_36 rfl ?_
    refine ca_if_ne (tgt := 60) h dX5_comparison_37 (by decide) (fun c_37 => ?_) (fun c_37 => ?_)
    ·
      refine ca_pick [3, 2, 1, 0] rfl ?_
      refine ca_mem (μ'' := up μ 15 (e_q2 q1)) (by unfold e_q2; rw [if_neg (fun z => bI_n0.mpr z c_33), if_pos (bI_n0.mp c_37)]) ?_
      exact K_60 trivial
    ·
      refine ca_aload_nr h dX5_comparison_40 rfl ?_
      refine rd_t5 h hr dX5_comparison_41 ?_
      refine ca_ldcs h (i := 83) (List.mem_of_getElem? (i := 22) rfl) dX5_comparison_44 ?_
      refine ca_vi h hG ml_X5_21 (c_X10_is hs (by rw [up_s]; exact g1) (by decide)) (ci := 10) rfl rfl rfl (hs.1 _ _ _ ⟨rfl, rfl⟩) rfl rfl rfl rfl ⟨Nat.le_refl _, Nat.le_refl _⟩ rfl dX5_comparison_46 ?_
      refine ca_if_ne (tgt := 60) h dX5_comparison_49 (by decide) (fun c_49 => ?_) (fun c_49 => ?_)
      ·
        refine ca_pick [3, 2, 1, 0] rfl ?_
        have c9 := c_49
        rw [up_s] at c9
        refine ca_mem (μ'' := up μ 15 (e_q2 q1)) (by unfold e_q2; rw [if_neg (fun z => bI_n0.mpr z c_33), if_neg (fun z => bI_n0.mpr z c_37), if_pos (bI_n0.mp c9)]) ?_
        exact K_60 trivial
      ·
        refine ca_aload_nr h dX5_comparison_52 rfl ?_
        refine rd_t5 h hr dX5_comparison_53 ?_
        refine ca_iconst h dX5_comparison_56 ik_1 ?_
        refine ca_vv h hG ml_X5_29 (c_X10_fail hs) (ci := 10) rfl rfl rfl (hs.1 _ _ _ ⟨rfl, rfl⟩) rfl rfl rfl rfl ⟨Nat.le_refl _, Nat.le_refl _⟩ rfl dX5_comparison_57 ?_
        refine ca_pick [3, 2, 1, 0] rfl ?_
        have c9 := c_49
        rw [up_s] at c9
        refine ca_mem (μ'' := up μ 15 (e_q2 q1)) (by unfold e_q2; rw [if_neg (fun z => bI_n0.mpr z c_33), if_neg (fun z => bI_n0.mpr z c_37), if_neg (fun z => bI_n0.mpr z c9)]; simp only [up_s, up_up]) ?_
        exact K_60 trivial
set_option maxHeartbeats 100000 in
theorem c_X5_factor_o6 {l : Launch} {E : ch_E} {S : ch_S} {μ : ch_M} {k : Nat} (hs : ch_Std E S) (hr : ch_Rd S 36 k) (hk : k < 15) (hq : k_tx (μ 15)) (hm : k_mc (μ k) ≤ 12) : ch_C E l yX5_factor cX5_factor 4 (some FieldType.int) 8 0 0 S μ [.ref (S.1 15 36 0), .int 6] (ch_F (some (.int ((e_fac (μ k) 0 (μ 15)).1))) S (up μ 15 (e_fac (μ k) 0 (μ 15)).2)) := by
  refine ch_enter rfl rfl ?_
  intro X hl0 h hG hR hnm
  have h : ch_H X E RX5 cX5_factor 4 := h
  have hk15 : k ≠ 15 := by omega
  show ch_W X E 4 S μ 0 0 0 [(0, .ref (S.1 15 36 0)), (1, .int 6)] []
  refine ca_aload_nr h dX5_factor_0 rfl ?_
  refine rd_t5 h hr dX5_factor_1 ?_
  refine ca_ldcs h (i := 59) (List.mem_of_getElem? (i := 10) rfl) dX5_factor_4 ?_
  refine ca_vi h hG ml_X5_21 (c_X10_is hs hq (by decide)) (ci := 10) rfl rfl rfl (hs.1 _ _ _ ⟨rfl, rfl⟩) rfl rfl rfl rfl ⟨Nat.le_refl _, Nat.le_refl _⟩ rfl dX5_factor_6 ?_
  refine ca_istore_n h dX5_factor_9 rfl ?_
  refine ca_iload_n h dX5_factor_10 rfl ?_
  refine ca_if_ne (tgt := 31) h dX5_factor_11 (by decide) (fun c_11 => ?_) (fun c_11 => ?_)
  ·
    refine ca_iload_n h dX5_factor_31 rfl ?_
    refine ca_bipush h dX5_factor_32 bk_6 ?_
    refine ca_icmp_lt (tgt := 47) h dX5_factor_34 (by decide) (fun c_34 => ?_) (fun c_34 => ?_)
    · exact absurd c_34 (by decide)
    ·
      refine ca_aload_nr h dX5_factor_37 rfl ?_
      refine rd_t5 h hr dX5_factor_38 ?_
      refine ca_iconst h dX5_factor_41 ik_3 ?_
      refine ca_vv h hG ml_X5_29 (c_X10_fail hs) (ci := 10) rfl rfl rfl (hs.1 _ _ _ ⟨rfl, rfl⟩) rfl rfl rfl rfl ⟨Nat.le_refl _, Nat.le_refl _⟩ rfl dX5_factor_42 ?_
      refine ca_iconst h dX5_factor_45 ik_0 ?_
      refine ca_ireturn h hR rfl dX5_factor_46 ?_
      have e1 : e_fac (μ k) 0 (μ 15) = _ := e_fac_0 (μ k) (μ 15)
      rw [if_pos (bI_n0.mp c_11)] at e1
      exact ⟨by rw [e1], rfl, by rw [e1]⟩
  ·
    refine ca_aload_nr h dX5_factor_14 rfl ?_
    refine rd_t5 h hr dX5_factor_15 ?_
    refine ca_ldcs h (i := 61) (List.mem_of_getElem? (i := 11) rfl) dX5_factor_18 ?_
    refine ca_vi h hG ml_X5_21 (c_X10_is hs hq (by decide)) (ci := 10) rfl rfl rfl (hs.1 _ _ _ ⟨rfl, rfl⟩) rfl rfl rfl rfl ⟨Nat.le_refl _, Nat.le_refl _⟩ rfl dX5_factor_20 ?_
    refine ca_if_ne (tgt := 31) h dX5_factor_23 (by decide) (fun c_23 => ?_) (fun c_23 => ?_)
    ·
      refine ca_iload_n h dX5_factor_31 rfl ?_
      refine ca_bipush h dX5_factor_32 bk_6 ?_
      refine ca_icmp_lt (tgt := 47) h dX5_factor_34 (by decide) (fun c_34 => ?_) (fun c_34 => ?_)
      · exact absurd c_34 (by decide)
      ·
        refine ca_aload_nr h dX5_factor_37 rfl ?_
        refine rd_t5 h hr dX5_factor_38 ?_
        refine ca_iconst h dX5_factor_41 ik_3 ?_
        refine ca_vv h hG ml_X5_29 (c_X10_fail hs) (ci := 10) rfl rfl rfl (hs.1 _ _ _ ⟨rfl, rfl⟩) rfl rfl rfl rfl ⟨Nat.le_refl _, Nat.le_refl _⟩ rfl dX5_factor_42 ?_
        refine ca_iconst h dX5_factor_45 ik_0 ?_
        refine ca_ireturn h hR rfl dX5_factor_46 ?_
        have e1 : e_fac (μ k) 0 (μ 15) = _ := e_fac_0 (μ k) (μ 15)
        rw [if_neg (fun z => bI_n0.mpr z c_11), if_pos (bI_n0.mp c_23)] at e1
        exact ⟨by rw [e1], rfl, by rw [e1]⟩
    ·
      refine ca_aload_nr h dX5_factor_26 rfl ?_
      refine ca_vi h hG ml_X5_63 (c_X5_comparison hs hr hk hq hm) (ci := 5) rfl rfl rfl hr.1 rfl rfl rfl rfl ⟨Nat.le_refl _, Nat.le_refl _⟩ rfl dX5_factor_27 ?_
      refine ca_ireturn h hR rfl dX5_factor_30 ?_
      have e1 : e_fac (μ k) 0 (μ 15) = _ := e_fac_0 (μ k) (μ 15)
      rw [if_neg (fun z => bI_n0.mpr z c_11), if_neg (fun z => bI_n0.mpr z c_23)] at e1
      exact ⟨by rw [e1], rfl, by rw [e1]⟩
set_option maxHeartbeats 100000 in
theorem c_X5_test_o6 {l : Launch} {E : ch_E} {S : ch_S} {μ : ch_M} {k : Nat} (hs : ch_Std E S) (hr : ch_Rd S 36 k) (hk : k < 15) (hq : k_tx (μ 15)) (hm : k_mc (μ k) ≤ 12) : ch_C E l yX5_test cX5_test 7 (some FieldType.int) 9 0 0 S μ [.ref (S.1 15 36 0), .int 6] (ch_F (some (.int ((e_tst (e_fac (μ k) 0) (μ 15)).1))) S (up μ 15 (e_tst (e_fac (μ k) 0) (μ 15)).2)) := by
  refine ch_enter rfl rfl ?_
  intro X hl0 h hG hR hnm
  have h : ch_H X E RX5 cX5_test 7 := h
  have hk15 : k ≠ 15 := by omega
  show ch_W X E 7 S μ 0 0 0 [(0, .ref (S.1 15 36 0)), (1, .int 6)] []
  refine ca_iconst h dX5_test_0 ik_0 ?_
  refine ca_istore_n h dX5_test_1 rfl ?_
  refine ca_aload_nr h dX5_test_2 rfl ?_
  refine ca_iload_n h dX5_test_3 rfl ?_
  refine ca_vi h hG ml_X5_52 (c_X5_factor_o6 hs hr hk hq hm) (ci := 5) rfl rfl rfl hr.1 rfl rfl rfl rfl ⟨Nat.le_refl _, Nat.le_refl _⟩ rfl dX5_test_4 ?_
  refine ca_istore_n h dX5_test_7 rfl ?_
  refine ca_iconst h dX5_test_8 ik_0 ?_
  refine ca_istore h dX5_test_9 rfl ?_
  have loop_11 : ∀ (jj n : Nat), n + jj = 200 → ∀ (x4 : Int32) (e4 : x4 = nI n) (p : Int32 × Int32 × ch_N) (g : k_tx p.2.2) (hx : e_tR (e_fac (μ k) 0) (μ 15) = e_tL (e_fac (μ k) 0) jj p) (mm : ch_M) (em : mm = up μ 15 p.2.2), ch_W X E 7 S mm 0 0 11 [(0, .ref (S.1 15 36 0)), (1, .int 6), (2, .int p.1), (3, .int p.2.1), (4, .int x4)] [] := by
    intro jj
    induction jj with
    | zero =>
      intro n hn x4 e4 p g hx mm em
      have hn : n = 200 := by omega
      subst e4 em
      refine ca_iload h dX5_test_11 rfl ?_
      refine ca_sipush h dX5_test_13 sk_200 ?_
      refine ca_icmp_ge (tgt := 98) h dX5_test_16 (by decide) (fun c_16 => ?_) (fun c_16 => ?_)
      ·
        refine ca_iload_n h dX5_test_98 rfl ?_
        refine ca_iload_n h dX5_test_99 rfl ?_
        refine ca_ior h dX5_test_100 ?_
        refine ca_ireturn h hR rfl dX5_test_101 ?_
        have e1 : e_tst (e_fac (μ k) 0) (μ 15) = (p.1 ||| p.2.1, p.2.2) := by unfold e_tst; rw [hx]; rfl
        exact ⟨by rw [e1], rfl, by rw [e1]⟩
      · exact absurd c_16 (by rw [hn]; decide)
    | succ jj ih_11 =>
      intro n hn x4 e4 p g hx mm em
      have hn1 : n < 200 := by omega
      subst e4 em
      refine ca_iload h dX5_test_11 rfl ?_
      refine ca_sipush h dX5_test_13 sk_200 ?_
      refine ca_icmp_ge (tgt := 98) h dX5_test_16 (by decide) (fun c_16 => ?_) (fun c_16 => ?_)
      · exact absurd (nI_lt (b := 200) hn1 (by decide)) c_16
      ·
        refine ca_aload_nr h dX5_test_19 rfl ?_
        refine rd_t5 h hr dX5_test_20 ?_
        refine ca_ldcs h (i := 55) (List.mem_of_getElem? (i := 24) rfl) dX5_test_23 ?_
        refine ca_vi h hG ml_X5_21 (c_X10_is hs (by rw [up_s]; exact g) (by decide)) (ci := 10) rfl rfl rfl (hs.1 _ _ _ ⟨rfl, rfl⟩) rfl rfl rfl rfl ⟨Nat.le_refl _, Nat.le_refl _⟩ rfl dX5_test_25 ?_
        refine ca_top (show _ = bI (t_is p.2.2 23) by rw [up_s]) ?_
        refine ca_istore h dX5_test_28 rfl ?_
        refine ca_iload h dX5_test_30 rfl ?_
        refine ca_if_ne (tgt := 50) h dX5_test_32 (by decide) (fun c_32 => ?_) (fun c_32 => ?_)
        ·
          refine ca_aload_nr h dX5_test_50 rfl ?_
          refine rd_t5 h hr dX5_test_51 ?_
          refine ca_vv h hG ml_X5_33 (c_X10_advance hs (by rw [up_s]; exact g.1)) (ci := 10) rfl rfl rfl (hs.1 _ _ _ ⟨rfl, rfl⟩) rfl rfl rfl rfl ⟨Nat.le_refl _, Nat.le_refl _⟩ rfl dX5_test_54 ?_
          refine ca_mem (μ'' := up μ 15 (t_adv p.2.2)) (by rw [up_s, up_up]) ?_
          refine ca_aload_nr h dX5_test_57 rfl ?_
          refine ca_iload_n h dX5_test_58 rfl ?_
          refine ca_vi h hG ml_X5_52 (c_X5_factor_o6 hs hr hk (by rw [up_s]; exact k_tx_adv g) (by rw [up_n hk15]; exact hm)) (ci := 5) rfl rfl rfl hr.1 rfl rfl rfl rfl ⟨Nat.le_refl _, Nat.le_refl _⟩ rfl dX5_test_59 ?_
          refine ca_top (show _ = ((e_fac (μ k) 0) (t_adv p.2.2)).1 by rw [up_s, up_n hk15]) ?_
          refine ca_mem (μ'' := up μ 15 ((e_fac (μ k) 0) (t_adv p.2.2)).2) (by rw [up_s, up_n hk15, up_up]) ?_
          refine ca_istore h dX5_test_62 rfl ?_
          refine ca_iload h dX5_test_64 rfl ?_
          refine ca_if_eq (tgt := 75) h dX5_test_66 (by decide) (fun c_66 => ?_) (fun c_66 => ?_)
          · exact absurd c_66 c_32
          ·
            refine ca_iload_n h dX5_test_69 rfl ?_
            refine ca_iload_n h dX5_test_70 rfl ?_
            refine ca_ior h dX5_test_71 ?_
            refine ca_goto (tgt := 76) h dX5_test_72 (by decide) ?_
            refine ca_istore_n h dX5_test_76 rfl ?_
            refine ca_iload h dX5_test_77 rfl ?_
            refine ca_if_eq (tgt := 87) h dX5_test_79 (by decide) (fun c_79 => ?_) (fun c_79 => ?_)
            · exact absurd c_79 c_32
            ·
              refine ca_iload h dX5_test_82 rfl ?_
              refine ca_goto (tgt := 91) h dX5_test_84 (by decide) ?_
              refine ca_istore_n h dX5_test_91 rfl ?_
              refine ca_iinc h dX5_test_92 rfl ik_1 rfl ?_
              refine ca_goto (tgt := 11) h dX5_test_95 (by decide) ?_
              refine ca_pick [5, 6, 2, 1, 0] rfl ?_
              exact ih_11 (n + 1) (by omega) _ (nI_1 n) (p.1 ||| p.2.1, ((e_fac (μ k) 0) (t_adv p.2.2)).1, ((e_fac (μ k) 0) (t_adv p.2.2)).2) (e_fac_tx _ _ _ (k_tx_adv g)) (by rw [hx, e_tL, if_pos (bI_n0.mp c_32)]) _ rfl
        ·
          refine ca_aload_nr h dX5_test_35 rfl ?_
          refine rd_t5 h hr dX5_test_36 ?_
          refine ca_ldcs h (i := 57) (List.mem_of_getElem? (i := 25) rfl) dX5_test_39 ?_
          refine ca_vi h hG ml_X5_21 (c_X10_is hs (by rw [up_s]; exact g) (by decide)) (ci := 10) rfl rfl rfl (hs.1 _ _ _ ⟨rfl, rfl⟩) rfl rfl rfl rfl ⟨Nat.le_refl _, Nat.le_refl _⟩ rfl dX5_test_41 ?_
          refine ca_if_ne (tgt := 50) h dX5_test_44 (by decide) (fun c_44 => ?_) (fun c_44 => ?_)
          ·
            refine ca_aload_nr h dX5_test_50 rfl ?_
            refine rd_t5 h hr dX5_test_51 ?_
            refine ca_vv h hG ml_X5_33 (c_X10_advance hs (by rw [up_s]; exact g.1)) (ci := 10) rfl rfl rfl (hs.1 _ _ _ ⟨rfl, rfl⟩) rfl rfl rfl rfl ⟨Nat.le_refl _, Nat.le_refl _⟩ rfl dX5_test_54 ?_
            refine ca_mem (μ'' := up μ 15 (t_adv p.2.2)) (by rw [up_s, up_up]) ?_
            refine ca_aload_nr h dX5_test_57 rfl ?_
            refine ca_iload_n h dX5_test_58 rfl ?_
            refine ca_vi h hG ml_X5_52 (c_X5_factor_o6 hs hr hk (by rw [up_s]; exact k_tx_adv g) (by rw [up_n hk15]; exact hm)) (ci := 5) rfl rfl rfl hr.1 rfl rfl rfl rfl ⟨Nat.le_refl _, Nat.le_refl _⟩ rfl dX5_test_59 ?_
            refine ca_top (show _ = ((e_fac (μ k) 0) (t_adv p.2.2)).1 by rw [up_s, up_n hk15]) ?_
            refine ca_mem (μ'' := up μ 15 ((e_fac (μ k) 0) (t_adv p.2.2)).2) (by rw [up_s, up_n hk15, up_up]) ?_
            refine ca_istore h dX5_test_62 rfl ?_
            refine ca_iload h dX5_test_64 rfl ?_
            refine ca_if_eq (tgt := 75) h dX5_test_66 (by decide) (fun c_66 => ?_) (fun c_66 => ?_)
            ·
              refine ca_iload_n h dX5_test_75 rfl ?_
              refine ca_istore_n h dX5_test_76 rfl ?_
              refine ca_iload h dX5_test_77 rfl ?_
              refine ca_if_eq (tgt := 87) h dX5_test_79 (by decide) (fun c_79 => ?_) (fun c_79 => ?_)
              ·
                refine ca_iload_n h dX5_test_87 rfl ?_
                refine ca_iload h dX5_test_88 rfl ?_
                refine ca_iand h dX5_test_90 ?_
                refine ca_istore_n h dX5_test_91 rfl ?_
                refine ca_iinc h dX5_test_92 rfl ik_1 rfl ?_
                refine ca_goto (tgt := 11) h dX5_test_95 (by decide) ?_
                refine ca_pick [5, 6, 2, 1, 0] rfl ?_
                exact ih_11 (n + 1) (by omega) _ (nI_1 n) (p.1, p.2.1 &&& ((e_fac (μ k) 0) (t_adv p.2.2)).1, ((e_fac (μ k) 0) (t_adv p.2.2)).2) (e_fac_tx _ _ _ (k_tx_adv g)) (by rw [hx, e_tL, if_neg (fun z => bI_n0.mpr z c_32), if_pos (by have c9 := c_44; rw [up_s] at c9; exact bI_n0.mp c9)]) _ rfl
              · exact absurd c_32 c_79
            · exact absurd c_32 c_66
          ·
            refine ca_goto (tgt := 98) h dX5_test_47 (by decide) ?_
            refine ca_iload_n h dX5_test_98 rfl ?_
            refine ca_iload_n h dX5_test_99 rfl ?_
            refine ca_ior h dX5_test_100 ?_
            refine ca_ireturn h hR rfl dX5_test_101 ?_
            have e1 : e_tst (e_fac (μ k) 0) (μ 15) = (p.1 ||| p.2.1, p.2.2) := by unfold e_tst; rw [hx, e_tL, if_neg (fun z => bI_n0.mpr z c_32), if_neg (fun z => by have c9 := c_44; rw [up_s] at c9; exact bI_n0.mpr z c9)]
            exact ⟨by rw [e1], rfl, by rw [e1]⟩
  refine ca_pick [3, 4, 2, 1, 0] rfl ?_
  exact loop_11 _ 0 (Nat.zero_add _) _ rfl (0, ((e_fac (μ k) 0) (μ 15)).1, ((e_fac (μ k) 0) (μ 15)).2) (e_fac_tx _ _ _ hq) rfl _ rfl
set_option maxHeartbeats 100000 in
theorem c_X5_factor_o5 {l : Launch} {E : ch_E} {S : ch_S} {μ : ch_M} {k : Nat} (hs : ch_Std E S) (hr : ch_Rd S 36 k) (hk : k < 15) (hq : k_tx (μ 15)) (hm : k_mc (μ k) ≤ 12) : ch_C E l yX5_factor cX5_factor 4 (some FieldType.int) 10 0 0 S μ [.ref (S.1 15 36 0), .int 5] (ch_F (some (.int ((e_fac (μ k) 1 (μ 15)).1))) S (up μ 15 (e_fac (μ k) 1 (μ 15)).2)) := by
  refine ch_enter rfl rfl ?_
  intro X hl0 h hG hR hnm
  have h : ch_H X E RX5 cX5_factor 4 := h
  have hk15 : k ≠ 15 := by omega
  show ch_W X E 4 S μ 0 0 0 [(0, .ref (S.1 15 36 0)), (1, .int 5)] []
  refine ca_aload_nr h dX5_factor_0 rfl ?_
  refine rd_t5 h hr dX5_factor_1 ?_
  refine ca_ldcs h (i := 59) (List.mem_of_getElem? (i := 10) rfl) dX5_factor_4 ?_
  refine ca_vi h hG ml_X5_21 (c_X10_is hs hq (by decide)) (ci := 10) rfl rfl rfl (hs.1 _ _ _ ⟨rfl, rfl⟩) rfl rfl rfl rfl ⟨Nat.le_refl _, Nat.le_refl _⟩ rfl dX5_factor_6 ?_
  refine ca_istore_n h dX5_factor_9 rfl ?_
  refine ca_iload_n h dX5_factor_10 rfl ?_
  refine ca_if_ne (tgt := 31) h dX5_factor_11 (by decide) (fun c_11 => ?_) (fun c_11 => ?_)
  ·
    refine ca_iload_n h dX5_factor_31 rfl ?_
    refine ca_bipush h dX5_factor_32 bk_6 ?_
    refine ca_icmp_lt (tgt := 47) h dX5_factor_34 (by decide) (fun c_34 => ?_) (fun c_34 => ?_)
    ·
      refine ca_aload_nr h dX5_factor_47 rfl ?_
      refine rd_t5 h hr dX5_factor_48 ?_
      refine ca_vv h hG ml_X5_33 (c_X10_advance hs hq.1) (ci := 10) rfl rfl rfl (hs.1 _ _ _ ⟨rfl, rfl⟩) rfl rfl rfl rfl ⟨Nat.le_refl _, Nat.le_refl _⟩ rfl dX5_factor_51 ?_
      refine ca_iload_n h dX5_factor_54 rfl ?_
      refine ca_if_eq (tgt := 73) h dX5_factor_55 (by decide) (fun c_55 => ?_) (fun c_55 => ?_)
      · exact absurd c_55 c_11
      ·
        refine ca_aload_nr h dX5_factor_58 rfl ?_
        refine ca_vi h hG ml_X5_67 (c_X5_everyMobile hs hr hk) (ci := 5) rfl rfl rfl hr.1 rfl rfl rfl rfl ⟨Nat.le_refl _, Nat.le_refl _⟩ rfl dX5_factor_59 ?_
        refine ca_top (show _ = e_all (μ k) by rw [up_n hk15]) ?_
        refine ca_aload_nr h dX5_factor_62 rfl ?_
        refine ca_iload_n h dX5_factor_63 rfl ?_
        refine ca_iconst h dX5_factor_64 ik_1 ?_
        refine ca_iadd h dX5_factor_65 ?_
        refine ca_top (show _ = 6 from by decide) ?_
        refine ca_vi h hG ml_X5_52 (c_X5_factor_o6 hs hr hk (by rw [up_s]; exact k_tx_adv hq) (by rw [up_n hk15]; exact hm)) (ci := 5) rfl rfl rfl hr.1 rfl rfl rfl rfl ⟨Nat.le_refl _, Nat.le_refl _⟩ rfl dX5_factor_66 ?_
        refine ca_top (show _ = (e_fac (μ k) 0 (t_adv (μ 15))).1 by rw [up_s, up_n hk15]) ?_
        refine ca_mem (μ'' := up μ 15 (e_fac (μ k) 0 (t_adv (μ 15))).2) (by rw [up_s, up_n hk15, up_up]) ?_
        refine ca_iconst h dX5_factor_69 ik_m1 ?_
        refine ca_ixor h dX5_factor_70 ?_
        refine ca_iand h dX5_factor_71 ?_
        refine ca_ireturn h hR rfl dX5_factor_72 ?_
        have e1 : e_fac (μ k) 1 (μ 15) = _ := e_fac_s (μ k) 0 (μ 15)
        rw [if_pos (bI_n0.mp c_11)] at e1
        exact ⟨by rw [e1], rfl, by rw [e1]⟩
    · exact absurd (by decide) c_34
  ·
    refine ca_aload_nr h dX5_factor_14 rfl ?_
    refine rd_t5 h hr dX5_factor_15 ?_
    refine ca_ldcs h (i := 61) (List.mem_of_getElem? (i := 11) rfl) dX5_factor_18 ?_
    refine ca_vi h hG ml_X5_21 (c_X10_is hs hq (by decide)) (ci := 10) rfl rfl rfl (hs.1 _ _ _ ⟨rfl, rfl⟩) rfl rfl rfl rfl ⟨Nat.le_refl _, Nat.le_refl _⟩ rfl dX5_factor_20 ?_
    refine ca_if_ne (tgt := 31) h dX5_factor_23 (by decide) (fun c_23 => ?_) (fun c_23 => ?_)
    ·
      refine ca_iload_n h dX5_factor_31 rfl ?_
      refine ca_bipush h dX5_factor_32 bk_6 ?_
      refine ca_icmp_lt (tgt := 47) h dX5_factor_34 (by decide) (fun c_34 => ?_) (fun c_34 => ?_)
      ·
        refine ca_aload_nr h dX5_factor_47 rfl ?_
        refine rd_t5 h hr dX5_factor_48 ?_
        refine ca_vv h hG ml_X5_33 (c_X10_advance hs hq.1) (ci := 10) rfl rfl rfl (hs.1 _ _ _ ⟨rfl, rfl⟩) rfl rfl rfl rfl ⟨Nat.le_refl _, Nat.le_refl _⟩ rfl dX5_factor_51 ?_
        refine ca_iload_n h dX5_factor_54 rfl ?_
        refine ca_if_eq (tgt := 73) h dX5_factor_55 (by decide) (fun c_55 => ?_) (fun c_55 => ?_)
        ·
          refine ca_aload_nr h dX5_factor_73 rfl ?_
          refine ca_iload_n h dX5_factor_74 rfl ?_
          refine ca_iconst h dX5_factor_75 ik_1 ?_
          refine ca_iadd h dX5_factor_76 ?_
          refine ca_top (show _ = 6 from by decide) ?_
          refine ca_vi h hG ml_X5_36 (c_X5_test_o6 hs hr hk (by rw [up_s]; exact k_tx_adv hq) (by rw [up_n hk15]; exact hm)) (ci := 5) rfl rfl rfl hr.1 rfl rfl rfl rfl ⟨Nat.le_refl _, Nat.le_refl _⟩ rfl dX5_factor_77 ?_
          refine ca_top (show _ = (e_tst (e_fac (μ k) 0) (t_adv (μ 15))).1 by rw [up_s, up_n hk15]) ?_
          refine ca_mem (μ'' := up μ 15 (e_tst (e_fac (μ k) 0) (t_adv (μ 15))).2) (by rw [up_s, up_n hk15, up_up]) ?_
          refine ca_istore_n h dX5_factor_80 rfl ?_
          refine ca_aload_nr h dX5_factor_81 rfl ?_
          refine rd_t5 h hr dX5_factor_82 ?_
          refine ca_ldcs h (i := 70) (List.mem_of_getElem? (i := 23) rfl) dX5_factor_85 ?_
          refine ca_vv h hG ml_X5_72 (c_X10_expect hs (by rw [up_s]; exact e_tst_tx (e_fac_tx (μ k) 0) (k_tx_adv hq)) (by decide)) (ci := 10) rfl rfl rfl (hs.1 _ _ _ ⟨rfl, rfl⟩) rfl rfl rfl rfl ⟨Nat.le_refl _, Nat.le_refl _⟩ rfl dX5_factor_87 ?_
          refine ca_mem (by rw [up_s, up_up]) ?_
          refine ca_iload_n h dX5_factor_90 rfl ?_
          refine ca_ireturn h hR rfl dX5_factor_91 ?_
          have e1 : e_fac (μ k) 1 (μ 15) = _ := e_fac_s (μ k) 0 (μ 15)
          rw [if_neg (fun z => bI_n0.mpr z c_11), if_pos (bI_n0.mp c_23)] at e1
          exact ⟨by rw [e1], rfl, by rw [e1]⟩
        · exact absurd c_11 c_55
      · exact absurd (by decide) c_34
    ·
      refine ca_aload_nr h dX5_factor_26 rfl ?_
      refine ca_vi h hG ml_X5_63 (c_X5_comparison hs hr hk hq hm) (ci := 5) rfl rfl rfl hr.1 rfl rfl rfl rfl ⟨Nat.le_refl _, Nat.le_refl _⟩ rfl dX5_factor_27 ?_
      refine ca_ireturn h hR rfl dX5_factor_30 ?_
      have e1 : e_fac (μ k) 1 (μ 15) = _ := e_fac_s (μ k) 0 (μ 15)
      rw [if_neg (fun z => bI_n0.mpr z c_11), if_neg (fun z => bI_n0.mpr z c_23)] at e1
      exact ⟨by rw [e1], rfl, by rw [e1]⟩
set_option maxHeartbeats 100000 in
theorem c_X5_test_o5 {l : Launch} {E : ch_E} {S : ch_S} {μ : ch_M} {k : Nat} (hs : ch_Std E S) (hr : ch_Rd S 36 k) (hk : k < 15) (hq : k_tx (μ 15)) (hm : k_mc (μ k) ≤ 12) : ch_C E l yX5_test cX5_test 7 (some FieldType.int) 11 0 0 S μ [.ref (S.1 15 36 0), .int 5] (ch_F (some (.int ((e_tst (e_fac (μ k) 1) (μ 15)).1))) S (up μ 15 (e_tst (e_fac (μ k) 1) (μ 15)).2)) := by
  refine ch_enter rfl rfl ?_
  intro X hl0 h hG hR hnm
  have h : ch_H X E RX5 cX5_test 7 := h
  have hk15 : k ≠ 15 := by omega
  show ch_W X E 7 S μ 0 0 0 [(0, .ref (S.1 15 36 0)), (1, .int 5)] []
  refine ca_iconst h dX5_test_0 ik_0 ?_
  refine ca_istore_n h dX5_test_1 rfl ?_
  refine ca_aload_nr h dX5_test_2 rfl ?_
  refine ca_iload_n h dX5_test_3 rfl ?_
  refine ca_vi h hG ml_X5_52 (c_X5_factor_o5 hs hr hk hq hm) (ci := 5) rfl rfl rfl hr.1 rfl rfl rfl rfl ⟨Nat.le_refl _, Nat.le_refl _⟩ rfl dX5_test_4 ?_
  refine ca_istore_n h dX5_test_7 rfl ?_
  refine ca_iconst h dX5_test_8 ik_0 ?_
  refine ca_istore h dX5_test_9 rfl ?_
  have loop_11 : ∀ (jj n : Nat), n + jj = 200 → ∀ (x4 : Int32) (e4 : x4 = nI n) (p : Int32 × Int32 × ch_N) (g : k_tx p.2.2) (hx : e_tR (e_fac (μ k) 1) (μ 15) = e_tL (e_fac (μ k) 1) jj p) (mm : ch_M) (em : mm = up μ 15 p.2.2), ch_W X E 7 S mm 0 0 11 [(0, .ref (S.1 15 36 0)), (1, .int 5), (2, .int p.1), (3, .int p.2.1), (4, .int x4)] [] := by
    intro jj
    induction jj with
    | zero =>
      intro n hn x4 e4 p g hx mm em
      have hn : n = 200 := by omega
      subst e4 em
      refine ca_iload h dX5_test_11 rfl ?_
      refine ca_sipush h dX5_test_13 sk_200 ?_
      refine ca_icmp_ge (tgt := 98) h dX5_test_16 (by decide) (fun c_16 => ?_) (fun c_16 => ?_)
      ·
        refine ca_iload_n h dX5_test_98 rfl ?_
        refine ca_iload_n h dX5_test_99 rfl ?_
        refine ca_ior h dX5_test_100 ?_
        refine ca_ireturn h hR rfl dX5_test_101 ?_
        have e1 : e_tst (e_fac (μ k) 1) (μ 15) = (p.1 ||| p.2.1, p.2.2) := by unfold e_tst; rw [hx]; rfl
        exact ⟨by rw [e1], rfl, by rw [e1]⟩
      · exact absurd c_16 (by rw [hn]; decide)
    | succ jj ih_11 =>
      intro n hn x4 e4 p g hx mm em
      have hn1 : n < 200 := by omega
      subst e4 em
      refine ca_iload h dX5_test_11 rfl ?_
      refine ca_sipush h dX5_test_13 sk_200 ?_
      refine ca_icmp_ge (tgt := 98) h dX5_test_16 (by decide) (fun c_16 => ?_) (fun c_16 => ?_)
      · exact absurd (nI_lt (b := 200) hn1 (by decide)) c_16
      ·
        refine ca_aload_nr h dX5_test_19 rfl ?_
        refine rd_t5 h hr dX5_test_20 ?_
        refine ca_ldcs h (i := 55) (List.mem_of_getElem? (i := 24) rfl) dX5_test_23 ?_
        refine ca_vi h hG ml_X5_21 (c_X10_is hs (by rw [up_s]; exact g) (by decide)) (ci := 10) rfl rfl rfl (hs.1 _ _ _ ⟨rfl, rfl⟩) rfl rfl rfl rfl ⟨Nat.le_refl _, Nat.le_refl _⟩ rfl dX5_test_25 ?_
        refine ca_top (show _ = bI (t_is p.2.2 23) by rw [up_s]) ?_
        refine ca_istore h dX5_test_28 rfl ?_
        refine ca_iload h dX5_test_30 rfl ?_
        refine ca_if_ne (tgt := 50) h dX5_test_32 (by decide) (fun c_32 => ?_) (fun c_32 => ?_)
        ·
          refine ca_aload_nr h dX5_test_50 rfl ?_
          refine rd_t5 h hr dX5_test_51 ?_
          refine ca_vv h hG ml_X5_33 (c_X10_advance hs (by rw [up_s]; exact g.1)) (ci := 10) rfl rfl rfl (hs.1 _ _ _ ⟨rfl, rfl⟩) rfl rfl rfl rfl ⟨Nat.le_refl _, Nat.le_refl _⟩ rfl dX5_test_54 ?_
          refine ca_mem (μ'' := up μ 15 (t_adv p.2.2)) (by rw [up_s, up_up]) ?_
          refine ca_aload_nr h dX5_test_57 rfl ?_
          refine ca_iload_n h dX5_test_58 rfl ?_
          refine ca_vi h hG ml_X5_52 (c_X5_factor_o5 hs hr hk (by rw [up_s]; exact k_tx_adv g) (by rw [up_n hk15]; exact hm)) (ci := 5) rfl rfl rfl hr.1 rfl rfl rfl rfl ⟨Nat.le_refl _, Nat.le_refl _⟩ rfl dX5_test_59 ?_
          refine ca_top (show _ = ((e_fac (μ k) 1) (t_adv p.2.2)).1 by rw [up_s, up_n hk15]) ?_
          refine ca_mem (μ'' := up μ 15 ((e_fac (μ k) 1) (t_adv p.2.2)).2) (by rw [up_s, up_n hk15, up_up]) ?_
          refine ca_istore h dX5_test_62 rfl ?_
          refine ca_iload h dX5_test_64 rfl ?_
          refine ca_if_eq (tgt := 75) h dX5_test_66 (by decide) (fun c_66 => ?_) (fun c_66 => ?_)
          · exact absurd c_66 c_32
          ·
            refine ca_iload_n h dX5_test_69 rfl ?_
            refine ca_iload_n h dX5_test_70 rfl ?_
            refine ca_ior h dX5_test_71 ?_
            refine ca_goto (tgt := 76) h dX5_test_72 (by decide) ?_
            refine ca_istore_n h dX5_test_76 rfl ?_
            refine ca_iload h dX5_test_77 rfl ?_
            refine ca_if_eq (tgt := 87) h dX5_test_79 (by decide) (fun c_79 => ?_) (fun c_79 => ?_)
            · exact absurd c_79 c_32
            ·
              refine ca_iload h dX5_test_82 rfl ?_
              refine ca_goto (tgt := 91) h dX5_test_84 (by decide) ?_
              refine ca_istore_n h dX5_test_91 rfl ?_
              refine ca_iinc h dX5_test_92 rfl ik_1 rfl ?_
              refine ca_goto (tgt := 11) h dX5_test_95 (by decide) ?_
              refine ca_pick [5, 6, 2, 1, 0] rfl ?_
              exact ih_11 (n + 1) (by omega) _ (nI_1 n) (p.1 ||| p.2.1, ((e_fac (μ k) 1) (t_adv p.2.2)).1, ((e_fac (μ k) 1) (t_adv p.2.2)).2) (e_fac_tx _ _ _ (k_tx_adv g)) (by rw [hx, e_tL, if_pos (bI_n0.mp c_32)]) _ rfl
        ·
          refine ca_aload_nr h dX5_test_35 rfl ?_
          refine rd_t5 h hr dX5_test_36 ?_
          refine ca_ldcs h (i := 57) (List.mem_of_getElem? (i := 25) rfl) dX5_test_39 ?_
          refine ca_vi h hG ml_X5_21 (c_X10_is hs (by rw [up_s]; exact g) (by decide)) (ci := 10) rfl rfl rfl (hs.1 _ _ _ ⟨rfl, rfl⟩) rfl rfl rfl rfl ⟨Nat.le_refl _, Nat.le_refl _⟩ rfl dX5_test_41 ?_
          refine ca_if_ne (tgt := 50) h dX5_test_44 (by decide) (fun c_44 => ?_) (fun c_44 => ?_)
          ·
            refine ca_aload_nr h dX5_test_50 rfl ?_
            refine rd_t5 h hr dX5_test_51 ?_
            refine ca_vv h hG ml_X5_33 (c_X10_advance hs (by rw [up_s]; exact g.1)) (ci := 10) rfl rfl rfl (hs.1 _ _ _ ⟨rfl, rfl⟩) rfl rfl rfl rfl ⟨Nat.le_refl _, Nat.le_refl _⟩ rfl dX5_test_54 ?_
            refine ca_mem (μ'' := up μ 15 (t_adv p.2.2)) (by rw [up_s, up_up]) ?_
            refine ca_aload_nr h dX5_test_57 rfl ?_
            refine ca_iload_n h dX5_test_58 rfl ?_
            refine ca_vi h hG ml_X5_52 (c_X5_factor_o5 hs hr hk (by rw [up_s]; exact k_tx_adv g) (by rw [up_n hk15]; exact hm)) (ci := 5) rfl rfl rfl hr.1 rfl rfl rfl rfl ⟨Nat.le_refl _, Nat.le_refl _⟩ rfl dX5_test_59 ?_
            refine ca_top (show _ = ((e_fac (μ k) 1) (t_adv p.2.2)).1 by rw [up_s, up_n hk15]) ?_
            refine ca_mem (μ'' := up μ 15 ((e_fac (μ k) 1) (t_adv p.2.2)).2) (by rw [up_s, up_n hk15, up_up]) ?_
            refine ca_istore h dX5_test_62 rfl ?_
            refine ca_iload h dX5_test_64 rfl ?_
            refine ca_if_eq (tgt := 75) h dX5_test_66 (by decide) (fun c_66 => ?_) (fun c_66 => ?_)
            ·
              refine ca_iload_n h dX5_test_75 rfl ?_
              refine ca_istore_n h dX5_test_76 rfl ?_
              refine ca_iload h dX5_test_77 rfl ?_
              refine ca_if_eq (tgt := 87) h dX5_test_79 (by decide) (fun c_79 => ?_) (fun c_79 => ?_)
              ·
                refine ca_iload_n h dX5_test_87 rfl ?_
                refine ca_iload h dX5_test_88 rfl ?_
                refine ca_iand h dX5_test_90 ?_
                refine ca_istore_n h dX5_test_91 rfl ?_
                refine ca_iinc h dX5_test_92 rfl ik_1 rfl ?_
                refine ca_goto (tgt := 11) h dX5_test_95 (by decide) ?_
                refine ca_pick [5, 6, 2, 1, 0] rfl ?_
                exact ih_11 (n + 1) (by omega) _ (nI_1 n) (p.1, p.2.1 &&& ((e_fac (μ k) 1) (t_adv p.2.2)).1, ((e_fac (μ k) 1) (t_adv p.2.2)).2) (e_fac_tx _ _ _ (k_tx_adv g)) (by rw [hx, e_tL, if_neg (fun z => bI_n0.mpr z c_32), if_pos (by have c9 := c_44; rw [up_s] at c9; exact bI_n0.mp c9)]) _ rfl
              · exact absurd c_32 c_79
            · exact absurd c_32 c_66
          ·
            refine ca_goto (tgt := 98) h dX5_test_47 (by decide) ?_
            refine ca_iload_n h dX5_test_98 rfl ?_
            refine ca_iload_n h dX5_test_99 rfl ?_
            refine ca_ior h dX5_test_100 ?_
            refine ca_ireturn h hR rfl dX5_test_101 ?_
            have e1 : e_tst (e_fac (μ k) 1) (μ 15) = (p.1 ||| p.2.1, p.2.2) := by unfold e_tst; rw [hx, e_tL, if_neg (fun z => bI_n0.mpr z c_32), if_neg (fun z => by have c9 := c_44; rw [up_s] at c9; exact bI_n0.mpr z c9)]
            exact ⟨by rw [e1], rfl, by rw [e1]⟩
  refine ca_pick [3, 4, 2, 1, 0] rfl ?_
  exact loop_11 _ 0 (Nat.zero_add _) _ rfl (0, ((e_fac (μ k) 1) (μ 15)).1, ((e_fac (μ k) 1) (μ 15)).2) (e_fac_tx _ _ _ hq) rfl _ rfl
set_option maxHeartbeats 100000 in
theorem c_X5_factor_o4 {l : Launch} {E : ch_E} {S : ch_S} {μ : ch_M} {k : Nat} (hs : ch_Std E S) (hr : ch_Rd S 36 k) (hk : k < 15) (hq : k_tx (μ 15)) (hm : k_mc (μ k) ≤ 12) : ch_C E l yX5_factor cX5_factor 4 (some FieldType.int) 12 0 0 S μ [.ref (S.1 15 36 0), .int 4] (ch_F (some (.int ((e_fac (μ k) 2 (μ 15)).1))) S (up μ 15 (e_fac (μ k) 2 (μ 15)).2)) := by
  refine ch_enter rfl rfl ?_
  intro X hl0 h hG hR hnm
  have h : ch_H X E RX5 cX5_factor 4 := h
  have hk15 : k ≠ 15 := by omega
  show ch_W X E 4 S μ 0 0 0 [(0, .ref (S.1 15 36 0)), (1, .int 4)] []
  refine ca_aload_nr h dX5_factor_0 rfl ?_
  refine rd_t5 h hr dX5_factor_1 ?_
  refine ca_ldcs h (i := 59) (List.mem_of_getElem? (i := 10) rfl) dX5_factor_4 ?_
  refine ca_vi h hG ml_X5_21 (c_X10_is hs hq (by decide)) (ci := 10) rfl rfl rfl (hs.1 _ _ _ ⟨rfl, rfl⟩) rfl rfl rfl rfl ⟨Nat.le_refl _, Nat.le_refl _⟩ rfl dX5_factor_6 ?_
  refine ca_istore_n h dX5_factor_9 rfl ?_
  refine ca_iload_n h dX5_factor_10 rfl ?_
  refine ca_if_ne (tgt := 31) h dX5_factor_11 (by decide) (fun c_11 => ?_) (fun c_11 => ?_)
  ·
    refine ca_iload_n h dX5_factor_31 rfl ?_
    refine ca_bipush h dX5_factor_32 bk_6 ?_
    refine ca_icmp_lt (tgt := 47) h dX5_factor_34 (by decide) (fun c_34 => ?_) (fun c_34 => ?_)
    ·
      refine ca_aload_nr h dX5_factor_47 rfl ?_
      refine rd_t5 h hr dX5_factor_48 ?_
      refine ca_vv h hG ml_X5_33 (c_X10_advance hs hq.1) (ci := 10) rfl rfl rfl (hs.1 _ _ _ ⟨rfl, rfl⟩) rfl rfl rfl rfl ⟨Nat.le_refl _, Nat.le_refl _⟩ rfl dX5_factor_51 ?_
      refine ca_iload_n h dX5_factor_54 rfl ?_
      refine ca_if_eq (tgt := 73) h dX5_factor_55 (by decide) (fun c_55 => ?_) (fun c_55 => ?_)
      · exact absurd c_55 c_11
      ·
        refine ca_aload_nr h dX5_factor_58 rfl ?_
        refine ca_vi h hG ml_X5_67 (c_X5_everyMobile hs hr hk) (ci := 5) rfl rfl rfl hr.1 rfl rfl rfl rfl ⟨Nat.le_refl _, Nat.le_refl _⟩ rfl dX5_factor_59 ?_
        refine ca_top (show _ = e_all (μ k) by rw [up_n hk15]) ?_
        refine ca_aload_nr h dX5_factor_62 rfl ?_
        refine ca_iload_n h dX5_factor_63 rfl ?_
        refine ca_iconst h dX5_factor_64 ik_1 ?_
        refine ca_iadd h dX5_factor_65 ?_
        refine ca_top (show _ = 5 from by decide) ?_
        refine ca_vi h hG ml_X5_52 (c_X5_factor_o5 hs hr hk (by rw [up_s]; exact k_tx_adv hq) (by rw [up_n hk15]; exact hm)) (ci := 5) rfl rfl rfl hr.1 rfl rfl rfl rfl ⟨Nat.le_refl _, Nat.le_refl _⟩ rfl dX5_factor_66 ?_
        refine ca_top (show _ = (e_fac (μ k) 1 (t_adv (μ 15))).1 by rw [up_s, up_n hk15]) ?_
        refine ca_mem (μ'' := up μ 15 (e_fac (μ k) 1 (t_adv (μ 15))).2) (by rw [up_s, up_n hk15, up_up]) ?_
        refine ca_iconst h dX5_factor_69 ik_m1 ?_
        refine ca_ixor h dX5_factor_70 ?_
        refine ca_iand h dX5_factor_71 ?_
        refine ca_ireturn h hR rfl dX5_factor_72 ?_
        have e1 : e_fac (μ k) 2 (μ 15) = _ := e_fac_s (μ k) 1 (μ 15)
        rw [if_pos (bI_n0.mp c_11)] at e1
        exact ⟨by rw [e1], rfl, by rw [e1]⟩
    · exact absurd (by decide) c_34
  ·
    refine ca_aload_nr h dX5_factor_14 rfl ?_
    refine rd_t5 h hr dX5_factor_15 ?_
    refine ca_ldcs h (i := 61) (List.mem_of_getElem? (i := 11) rfl) dX5_factor_18 ?_
    refine ca_vi h hG ml_X5_21 (c_X10_is hs hq (by decide)) (ci := 10) rfl rfl rfl (hs.1 _ _ _ ⟨rfl, rfl⟩) rfl rfl rfl rfl ⟨Nat.le_refl _, Nat.le_refl _⟩ rfl dX5_factor_20 ?_
    refine ca_if_ne (tgt := 31) h dX5_factor_23 (by decide) (fun c_23 => ?_) (fun c_23 => ?_)
    ·
      refine ca_iload_n h dX5_factor_31 rfl ?_
      refine ca_bipush h dX5_factor_32 bk_6 ?_
      refine ca_icmp_lt (tgt := 47) h dX5_factor_34 (by decide) (fun c_34 => ?_) (fun c_34 => ?_)
      ·
        refine ca_aload_nr h dX5_factor_47 rfl ?_
        refine rd_t5 h hr dX5_factor_48 ?_
        refine ca_vv h hG ml_X5_33 (c_X10_advance hs hq.1) (ci := 10) rfl rfl rfl (hs.1 _ _ _ ⟨rfl, rfl⟩) rfl rfl rfl rfl ⟨Nat.le_refl _, Nat.le_refl _⟩ rfl dX5_factor_51 ?_
        refine ca_iload_n h dX5_factor_54 rfl ?_
        refine ca_if_eq (tgt := 73) h dX5_factor_55 (by decide) (fun c_55 => ?_) (fun c_55 => ?_)
        ·
          refine ca_aload_nr h dX5_factor_73 rfl ?_
          refine ca_iload_n h dX5_factor_74 rfl ?_
          refine ca_iconst h dX5_factor_75 ik_1 ?_
          refine ca_iadd h dX5_factor_76 ?_
          refine ca_top (show _ = 5 from by decide) ?_
          refine ca_vi h hG ml_X5_36 (c_X5_test_o5 hs hr hk (by rw [up_s]; exact k_tx_adv hq) (by rw [up_n hk15]; exact hm)) (ci := 5) rfl rfl rfl hr.1 rfl rfl rfl rfl ⟨Nat.le_refl _, Nat.le_refl _⟩ rfl dX5_factor_77 ?_
          refine ca_top (show _ = (e_tst (e_fac (μ k) 1) (t_adv (μ 15))).1 by rw [up_s, up_n hk15]) ?_
          refine ca_mem (μ'' := up μ 15 (e_tst (e_fac (μ k) 1) (t_adv (μ 15))).2) (by rw [up_s, up_n hk15, up_up]) ?_
          refine ca_istore_n h dX5_factor_80 rfl ?_
          refine ca_aload_nr h dX5_factor_81 rfl ?_
          refine rd_t5 h hr dX5_factor_82 ?_
          refine ca_ldcs h (i := 70) (List.mem_of_getElem? (i := 23) rfl) dX5_factor_85 ?_
          refine ca_vv h hG ml_X5_72 (c_X10_expect hs (by rw [up_s]; exact e_tst_tx (e_fac_tx (μ k) 1) (k_tx_adv hq)) (by decide)) (ci := 10) rfl rfl rfl (hs.1 _ _ _ ⟨rfl, rfl⟩) rfl rfl rfl rfl ⟨Nat.le_refl _, Nat.le_refl _⟩ rfl dX5_factor_87 ?_
          refine ca_mem (by rw [up_s, up_up]) ?_
          refine ca_iload_n h dX5_factor_90 rfl ?_
          refine ca_ireturn h hR rfl dX5_factor_91 ?_
          have e1 : e_fac (μ k) 2 (μ 15) = _ := e_fac_s (μ k) 1 (μ 15)
          rw [if_neg (fun z => bI_n0.mpr z c_11), if_pos (bI_n0.mp c_23)] at e1
          exact ⟨by rw [e1], rfl, by rw [e1]⟩
        · exact absurd c_11 c_55
      · exact absurd (by decide) c_34
    ·
      refine ca_aload_nr h dX5_factor_26 rfl ?_
      refine ca_vi h hG ml_X5_63 (c_X5_comparison hs hr hk hq hm) (ci := 5) rfl rfl rfl hr.1 rfl rfl rfl rfl ⟨Nat.le_refl _, Nat.le_refl _⟩ rfl dX5_factor_27 ?_
      refine ca_ireturn h hR rfl dX5_factor_30 ?_
      have e1 : e_fac (μ k) 2 (μ 15) = _ := e_fac_s (μ k) 1 (μ 15)
      rw [if_neg (fun z => bI_n0.mpr z c_11), if_neg (fun z => bI_n0.mpr z c_23)] at e1
      exact ⟨by rw [e1], rfl, by rw [e1]⟩
set_option maxHeartbeats 100000 in
theorem c_X5_test_o4 {l : Launch} {E : ch_E} {S : ch_S} {μ : ch_M} {k : Nat} (hs : ch_Std E S) (hr : ch_Rd S 36 k) (hk : k < 15) (hq : k_tx (μ 15)) (hm : k_mc (μ k) ≤ 12) : ch_C E l yX5_test cX5_test 7 (some FieldType.int) 13 0 0 S μ [.ref (S.1 15 36 0), .int 4] (ch_F (some (.int ((e_tst (e_fac (μ k) 2) (μ 15)).1))) S (up μ 15 (e_tst (e_fac (μ k) 2) (μ 15)).2)) := by
  refine ch_enter rfl rfl ?_
  intro X hl0 h hG hR hnm
  have h : ch_H X E RX5 cX5_test 7 := h
  have hk15 : k ≠ 15 := by omega
  show ch_W X E 7 S μ 0 0 0 [(0, .ref (S.1 15 36 0)), (1, .int 4)] []
  refine ca_iconst h dX5_test_0 ik_0 ?_
  refine ca_istore_n h dX5_test_1 rfl ?_
  refine ca_aload_nr h dX5_test_2 rfl ?_
  refine ca_iload_n h dX5_test_3 rfl ?_
  refine ca_vi h hG ml_X5_52 (c_X5_factor_o4 hs hr hk hq hm) (ci := 5) rfl rfl rfl hr.1 rfl rfl rfl rfl ⟨Nat.le_refl _, Nat.le_refl _⟩ rfl dX5_test_4 ?_
  refine ca_istore_n h dX5_test_7 rfl ?_
  refine ca_iconst h dX5_test_8 ik_0 ?_
  refine ca_istore h dX5_test_9 rfl ?_
  have loop_11 : ∀ (jj n : Nat), n + jj = 200 → ∀ (x4 : Int32) (e4 : x4 = nI n) (p : Int32 × Int32 × ch_N) (g : k_tx p.2.2) (hx : e_tR (e_fac (μ k) 2) (μ 15) = e_tL (e_fac (μ k) 2) jj p) (mm : ch_M) (em : mm = up μ 15 p.2.2), ch_W X E 7 S mm 0 0 11 [(0, .ref (S.1 15 36 0)), (1, .int 4), (2, .int p.1), (3, .int p.2.1), (4, .int x4)] [] := by
    intro jj
    induction jj with
    | zero =>
      intro n hn x4 e4 p g hx mm em
      have hn : n = 200 := by omega
      subst e4 em
      refine ca_iload h dX5_test_11 rfl ?_
      refine ca_sipush h dX5_test_13 sk_200 ?_
      refine ca_icmp_ge (tgt := 98) h dX5_test_16 (by decide) (fun c_16 => ?_) (fun c_16 => ?_)
      ·
        refine ca_iload_n h dX5_test_98 rfl ?_
        refine ca_iload_n h dX5_test_99 rfl ?_
        refine ca_ior h dX5_test_100 ?_
        refine ca_ireturn h hR rfl dX5_test_101 ?_
        have e1 : e_tst (e_fac (μ k) 2) (μ 15) = (p.1 ||| p.2.1, p.2.2) := by unfold e_tst; rw [hx]; rfl
        exact ⟨by rw [e1], rfl, by rw [e1]⟩
      · exact absurd c_16 (by rw [hn]; decide)
    | succ jj ih_11 =>
      intro n hn x4 e4 p g hx mm em
      have hn1 : n < 200 := by omega
      subst e4 em
      refine ca_iload h dX5_test_11 rfl ?_
      refine ca_sipush h dX5_test_13 sk_200 ?_
      refine ca_icmp_ge (tgt := 98) h dX5_test_16 (by decide) (fun c_16 => ?_) (fun c_16 => ?_)
      · exact absurd (nI_lt (b := 200) hn1 (by decide)) c_16
      ·
        refine ca_aload_nr h dX5_test_19 rfl ?_
        refine rd_t5 h hr dX5_test_20 ?_
        refine ca_ldcs h (i := 55) (List.mem_of_getElem? (i := 24) rfl) dX5_test_23 ?_
        refine ca_vi h hG ml_X5_21 (c_X10_is hs (by rw [up_s]; exact g) (by decide)) (ci := 10) rfl rfl rfl (hs.1 _ _ _ ⟨rfl, rfl⟩) rfl rfl rfl rfl ⟨Nat.le_refl _, Nat.le_refl _⟩ rfl dX5_test_25 ?_
        refine ca_top (show _ = bI (t_is p.2.2 23) by rw [up_s]) ?_
        refine ca_istore h dX5_test_28 rfl ?_
        refine ca_iload h dX5_test_30 rfl ?_
        refine ca_if_ne (tgt := 50) h dX5_test_32 (by decide) (fun c_32 => ?_) (fun c_32 => ?_)
        ·
          refine ca_aload_nr h dX5_test_50 rfl ?_
          refine rd_t5 h hr dX5_test_51 ?_
          refine ca_vv h hG ml_X5_33 (c_X10_advance hs (by rw [up_s]; exact g.1)) (ci := 10) rfl rfl rfl (hs.1 _ _ _ ⟨rfl, rfl⟩) rfl rfl rfl rfl ⟨Nat.le_refl _, Nat.le_refl _⟩ rfl dX5_test_54 ?_
          refine ca_mem (μ'' := up μ 15 (t_adv p.2.2)) (by rw [up_s, up_up]) ?_
          refine ca_aload_nr h dX5_test_57 rfl ?_
          refine ca_iload_n h dX5_test_58 rfl ?_
          refine ca_vi h hG ml_X5_52 (c_X5_factor_o4 hs hr hk (by rw [up_s]; exact k_tx_adv g) (by rw [up_n hk15]; exact hm)) (ci := 5) rfl rfl rfl hr.1 rfl rfl rfl rfl ⟨Nat.le_refl _, Nat.le_refl _⟩ rfl dX5_test_59 ?_
          refine ca_top (show _ = ((e_fac (μ k) 2) (t_adv p.2.2)).1 by rw [up_s, up_n hk15]) ?_
          refine ca_mem (μ'' := up μ 15 ((e_fac (μ k) 2) (t_adv p.2.2)).2) (by rw [up_s, up_n hk15, up_up]) ?_
          refine ca_istore h dX5_test_62 rfl ?_
          refine ca_iload h dX5_test_64 rfl ?_
          refine ca_if_eq (tgt := 75) h dX5_test_66 (by decide) (fun c_66 => ?_) (fun c_66 => ?_)
          · exact absurd c_66 c_32
          ·
            refine ca_iload_n h dX5_test_69 rfl ?_
            refine ca_iload_n h dX5_test_70 rfl ?_
            refine ca_ior h dX5_test_71 ?_
            refine ca_goto (tgt := 76) h dX5_test_72 (by decide) ?_
            refine ca_istore_n h dX5_test_76 rfl ?_
            refine ca_iload h dX5_test_77 rfl ?_
            refine ca_if_eq (tgt := 87) h dX5_test_79 (by decide) (fun c_79 => ?_) (fun c_79 => ?_)
            · exact absurd c_79 c_32
            ·
              refine ca_iload h dX5_test_82 rfl ?_
              refine ca_goto (tgt := 91) h dX5_test_84 (by decide) ?_
              refine ca_istore_n h dX5_test_91 rfl ?_
              refine ca_iinc h dX5_test_92 rfl ik_1 rfl ?_
              refine ca_goto (tgt := 11) h dX5_test_95 (by decide) ?_
              refine ca_pick [5, 6, 2, 1, 0] rfl ?_
              exact ih_11 (n + 1) (by omega) _ (nI_1 n) (p.1 ||| p.2.1, ((e_fac (μ k) 2) (t_adv p.2.2)).1, ((e_fac (μ k) 2) (t_adv p.2.2)).2) (e_fac_tx _ _ _ (k_tx_adv g)) (by rw [hx, e_tL, if_pos (bI_n0.mp c_32)]) _ rfl
        ·
          refine ca_aload_nr h dX5_test_35 rfl ?_
          refine rd_t5 h hr dX5_test_36 ?_
          refine ca_ldcs h (i := 57) (List.mem_of_getElem? (i := 25) rfl) dX5_test_39 ?_
          refine ca_vi h hG ml_X5_21 (c_X10_is hs (by rw [up_s]; exact g) (by decide)) (ci := 10) rfl rfl rfl (hs.1 _ _ _ ⟨rfl, rfl⟩) rfl rfl rfl rfl ⟨Nat.le_refl _, Nat.le_refl _⟩ rfl dX5_test_41 ?_
          refine ca_if_ne (tgt := 50) h dX5_test_44 (by decide) (fun c_44 => ?_) (fun c_44 => ?_)
          ·
            refine ca_aload_nr h dX5_test_50 rfl ?_
            refine rd_t5 h hr dX5_test_51 ?_
            refine ca_vv h hG ml_X5_33 (c_X10_advance hs (by rw [up_s]; exact g.1)) (ci := 10) rfl rfl rfl (hs.1 _ _ _ ⟨rfl, rfl⟩) rfl rfl rfl rfl ⟨Nat.le_refl _, Nat.le_refl _⟩ rfl dX5_test_54 ?_
            refine ca_mem (μ'' := up μ 15 (t_adv p.2.2)) (by rw [up_s, up_up]) ?_
            refine ca_aload_nr h dX5_test_57 rfl ?_
            refine ca_iload_n h dX5_test_58 rfl ?_
            refine ca_vi h hG ml_X5_52 (c_X5_factor_o4 hs hr hk (by rw [up_s]; exact k_tx_adv g) (by rw [up_n hk15]; exact hm)) (ci := 5) rfl rfl rfl hr.1 rfl rfl rfl rfl ⟨Nat.le_refl _, Nat.le_refl _⟩ rfl dX5_test_59 ?_
            refine ca_top (show _ = ((e_fac (μ k) 2) (t_adv p.2.2)).1 by rw [up_s, up_n hk15]) ?_
            refine ca_mem (μ'' := up μ 15 ((e_fac (μ k) 2) (t_adv p.2.2)).2) (by rw [up_s, up_n hk15, up_up]) ?_
            refine ca_istore h dX5_test_62 rfl ?_
            refine ca_iload h dX5_test_64 rfl ?_
            refine ca_if_eq (tgt := 75) h dX5_test_66 (by decide) (fun c_66 => ?_) (fun c_66 => ?_)
            ·
              refine ca_iload_n h dX5_test_75 rfl ?_
              refine ca_istore_n h dX5_test_76 rfl ?_
              refine ca_iload h dX5_test_77 rfl ?_
              refine ca_if_eq (tgt := 87) h dX5_test_79 (by decide) (fun c_79 => ?_) (fun c_79 => ?_)
              ·
                refine ca_iload_n h dX5_test_87 rfl ?_
                refine ca_iload h dX5_test_88 rfl ?_
                refine ca_iand h dX5_test_90 ?_
                refine ca_istore_n h dX5_test_91 rfl ?_
                refine ca_iinc h dX5_test_92 rfl ik_1 rfl ?_
                refine ca_goto (tgt := 11) h dX5_test_95 (by decide) ?_
                refine ca_pick [5, 6, 2, 1, 0] rfl ?_
                exact ih_11 (n + 1) (by omega) _ (nI_1 n) (p.1, p.2.1 &&& ((e_fac (μ k) 2) (t_adv p.2.2)).1, ((e_fac (μ k) 2) (t_adv p.2.2)).2) (e_fac_tx _ _ _ (k_tx_adv g)) (by rw [hx, e_tL, if_neg (fun z => bI_n0.mpr z c_32), if_pos (by have c9 := c_44; rw [up_s] at c9; exact bI_n0.mp c9)]) _ rfl
              · exact absurd c_32 c_79
            · exact absurd c_32 c_66
          ·
            refine ca_goto (tgt := 98) h dX5_test_47 (by decide) ?_
            refine ca_iload_n h dX5_test_98 rfl ?_
            refine ca_iload_n h dX5_test_99 rfl ?_
            refine ca_ior h dX5_test_100 ?_
            refine ca_ireturn h hR rfl dX5_test_101 ?_
            have e1 : e_tst (e_fac (μ k) 2) (μ 15) = (p.1 ||| p.2.1, p.2.2) := by unfold e_tst; rw [hx, e_tL, if_neg (fun z => bI_n0.mpr z c_32), if_neg (fun z => by have c9 := c_44; rw [up_s] at c9; exact bI_n0.mpr z c9)]
            exact ⟨by rw [e1], rfl, by rw [e1]⟩
  refine ca_pick [3, 4, 2, 1, 0] rfl ?_
  exact loop_11 _ 0 (Nat.zero_add _) _ rfl (0, ((e_fac (μ k) 2) (μ 15)).1, ((e_fac (μ k) 2) (μ 15)).2) (e_fac_tx _ _ _ hq) rfl _ rfl
set_option maxHeartbeats 100000 in
theorem c_X5_factor_o3 {l : Launch} {E : ch_E} {S : ch_S} {μ : ch_M} {k : Nat} (hs : ch_Std E S) (hr : ch_Rd S 36 k) (hk : k < 15) (hq : k_tx (μ 15)) (hm : k_mc (μ k) ≤ 12) : ch_C E l yX5_factor cX5_factor 4 (some FieldType.int) 14 0 0 S μ [.ref (S.1 15 36 0), .int 3] (ch_F (some (.int ((e_fac (μ k) 3 (μ 15)).1))) S (up μ 15 (e_fac (μ k) 3 (μ 15)).2)) := by
  refine ch_enter rfl rfl ?_
  intro X hl0 h hG hR hnm
  have h : ch_H X E RX5 cX5_factor 4 := h
  have hk15 : k ≠ 15 := by omega
  show ch_W X E 4 S μ 0 0 0 [(0, .ref (S.1 15 36 0)), (1, .int 3)] []
  refine ca_aload_nr h dX5_factor_0 rfl ?_
  refine rd_t5 h hr dX5_factor_1 ?_
  refine ca_ldcs h (i := 59) (List.mem_of_getElem? (i := 10) rfl) dX5_factor_4 ?_
  refine ca_vi h hG ml_X5_21 (c_X10_is hs hq (by decide)) (ci := 10) rfl rfl rfl (hs.1 _ _ _ ⟨rfl, rfl⟩) rfl rfl rfl rfl ⟨Nat.le_refl _, Nat.le_refl _⟩ rfl dX5_factor_6 ?_
  refine ca_istore_n h dX5_factor_9 rfl ?_
  refine ca_iload_n h dX5_factor_10 rfl ?_
  refine ca_if_ne (tgt := 31) h dX5_factor_11 (by decide) (fun c_11 => ?_) (fun c_11 => ?_)
  ·
    refine ca_iload_n h dX5_factor_31 rfl ?_
    refine ca_bipush h dX5_factor_32 bk_6 ?_
    refine ca_icmp_lt (tgt := 47) h dX5_factor_34 (by decide) (fun c_34 => ?_) (fun c_34 => ?_)
    ·
      refine ca_aload_nr h dX5_factor_47 rfl ?_
      refine rd_t5 h hr dX5_factor_48 ?_
      refine ca_vv h hG ml_X5_33 (c_X10_advance hs hq.1) (ci := 10) rfl rfl rfl (hs.1 _ _ _ ⟨rfl, rfl⟩) rfl rfl rfl rfl ⟨Nat.le_refl _, Nat.le_refl _⟩ rfl dX5_factor_51 ?_
      refine ca_iload_n h dX5_factor_54 rfl ?_
      refine ca_if_eq (tgt := 73) h dX5_factor_55 (by decide) (fun c_55 => ?_) (fun c_55 => ?_)
      · exact absurd c_55 c_11
      ·
        refine ca_aload_nr h dX5_factor_58 rfl ?_
        refine ca_vi h hG ml_X5_67 (c_X5_everyMobile hs hr hk) (ci := 5) rfl rfl rfl hr.1 rfl rfl rfl rfl ⟨Nat.le_refl _, Nat.le_refl _⟩ rfl dX5_factor_59 ?_
        refine ca_top (show _ = e_all (μ k) by rw [up_n hk15]) ?_
        refine ca_aload_nr h dX5_factor_62 rfl ?_
        refine ca_iload_n h dX5_factor_63 rfl ?_
        refine ca_iconst h dX5_factor_64 ik_1 ?_
        refine ca_iadd h dX5_factor_65 ?_
        refine ca_top (show _ = 4 from by decide) ?_
        refine ca_vi h hG ml_X5_52 (c_X5_factor_o4 hs hr hk (by rw [up_s]; exact k_tx_adv hq) (by rw [up_n hk15]; exact hm)) (ci := 5) rfl rfl rfl hr.1 rfl rfl rfl rfl ⟨Nat.le_refl _, Nat.le_refl _⟩ rfl dX5_factor_66 ?_
        refine ca_top (show _ = (e_fac (μ k) 2 (t_adv (μ 15))).1 by rw [up_s, up_n hk15]) ?_
        refine ca_mem (μ'' := up μ 15 (e_fac (μ k) 2 (t_adv (μ 15))).2) (by rw [up_s, up_n hk15, up_up]) ?_
        refine ca_iconst h dX5_factor_69 ik_m1 ?_
        refine ca_ixor h dX5_factor_70 ?_
        refine ca_iand h dX5_factor_71 ?_
        refine ca_ireturn h hR rfl dX5_factor_72 ?_
        have e1 : e_fac (μ k) 3 (μ 15) = _ := e_fac_s (μ k) 2 (μ 15)
        rw [if_pos (bI_n0.mp c_11)] at e1
        exact ⟨by rw [e1], rfl, by rw [e1]⟩
    · exact absurd (by decide) c_34
  ·
    refine ca_aload_nr h dX5_factor_14 rfl ?_
    refine rd_t5 h hr dX5_factor_15 ?_
    refine ca_ldcs h (i := 61) (List.mem_of_getElem? (i := 11) rfl) dX5_factor_18 ?_
    refine ca_vi h hG ml_X5_21 (c_X10_is hs hq (by decide)) (ci := 10) rfl rfl rfl (hs.1 _ _ _ ⟨rfl, rfl⟩) rfl rfl rfl rfl ⟨Nat.le_refl _, Nat.le_refl _⟩ rfl dX5_factor_20 ?_
    refine ca_if_ne (tgt := 31) h dX5_factor_23 (by decide) (fun c_23 => ?_) (fun c_23 => ?_)
    ·
      refine ca_iload_n h dX5_factor_31 rfl ?_
      refine ca_bipush h dX5_factor_32 bk_6 ?_
      refine ca_icmp_lt (tgt := 47) h dX5_factor_34 (by decide) (fun c_34 => ?_) (fun c_34 => ?_)
      ·
        refine ca_aload_nr h dX5_factor_47 rfl ?_
        refine rd_t5 h hr dX5_factor_48 ?_
        refine ca_vv h hG ml_X5_33 (c_X10_advance hs hq.1) (ci := 10) rfl rfl rfl (hs.1 _ _ _ ⟨rfl, rfl⟩) rfl rfl rfl rfl ⟨Nat.le_refl _, Nat.le_refl _⟩ rfl dX5_factor_51 ?_
        refine ca_iload_n h dX5_factor_54 rfl ?_
        refine ca_if_eq (tgt := 73) h dX5_factor_55 (by decide) (fun c_55 => ?_) (fun c_55 => ?_)
        ·
          refine ca_aload_nr h dX5_factor_73 rfl ?_
          refine ca_iload_n h dX5_factor_74 rfl ?_
          refine ca_iconst h dX5_factor_75 ik_1 ?_
          refine ca_iadd h dX5_factor_76 ?_
          refine ca_top (show _ = 4 from by decide) ?_
          refine ca_vi h hG ml_X5_36 (c_X5_test_o4 hs hr hk (by rw [up_s]; exact k_tx_adv hq) (by rw [up_n hk15]; exact hm)) (ci := 5) rfl rfl rfl hr.1 rfl rfl rfl rfl ⟨Nat.le_refl _, Nat.le_refl _⟩ rfl dX5_factor_77 ?_
          refine ca_top (show _ = (e_tst (e_fac (μ k) 2) (t_adv (μ 15))).1 by rw [up_s, up_n hk15]) ?_
          refine ca_mem (μ'' := up μ 15 (e_tst (e_fac (μ k) 2) (t_adv (μ 15))).2) (by rw [up_s, up_n hk15, up_up]) ?_
          refine ca_istore_n h dX5_factor_80 rfl ?_
          refine ca_aload_nr h dX5_factor_81 rfl ?_
          refine rd_t5 h hr dX5_factor_82 ?_
          refine ca_ldcs h (i := 70) (List.mem_of_getElem? (i := 23) rfl) dX5_factor_85 ?_
          refine ca_vv h hG ml_X5_72 (c_X10_expect hs (by rw [up_s]; exact e_tst_tx (e_fac_tx (μ k) 2) (k_tx_adv hq)) (by decide)) (ci := 10) rfl rfl rfl (hs.1 _ _ _ ⟨rfl, rfl⟩) rfl rfl rfl rfl ⟨Nat.le_refl _, Nat.le_refl _⟩ rfl dX5_factor_87 ?_
          refine ca_mem (by rw [up_s, up_up]) ?_
          refine ca_iload_n h dX5_factor_90 rfl ?_
          refine ca_ireturn h hR rfl dX5_factor_91 ?_
          have e1 : e_fac (μ k) 3 (μ 15) = _ := e_fac_s (μ k) 2 (μ 15)
          rw [if_neg (fun z => bI_n0.mpr z c_11), if_pos (bI_n0.mp c_23)] at e1
          exact ⟨by rw [e1], rfl, by rw [e1]⟩
        · exact absurd c_11 c_55
      · exact absurd (by decide) c_34
    ·
      refine ca_aload_nr h dX5_factor_26 rfl ?_
      refine ca_vi h hG ml_X5_63 (c_X5_comparison hs hr hk hq hm) (ci := 5) rfl rfl rfl hr.1 rfl rfl rfl rfl ⟨Nat.le_refl _, Nat.le_refl _⟩ rfl dX5_factor_27 ?_
      refine ca_ireturn h hR rfl dX5_factor_30 ?_
      have e1 : e_fac (μ k) 3 (μ 15) = _ := e_fac_s (μ k) 2 (μ 15)
      rw [if_neg (fun z => bI_n0.mpr z c_11), if_neg (fun z => bI_n0.mpr z c_23)] at e1
      exact ⟨by rw [e1], rfl, by rw [e1]⟩
set_option maxHeartbeats 100000 in
theorem c_X5_test_o3 {l : Launch} {E : ch_E} {S : ch_S} {μ : ch_M} {k : Nat} (hs : ch_Std E S) (hr : ch_Rd S 36 k) (hk : k < 15) (hq : k_tx (μ 15)) (hm : k_mc (μ k) ≤ 12) : ch_C E l yX5_test cX5_test 7 (some FieldType.int) 15 0 0 S μ [.ref (S.1 15 36 0), .int 3] (ch_F (some (.int ((e_tst (e_fac (μ k) 3) (μ 15)).1))) S (up μ 15 (e_tst (e_fac (μ k) 3) (μ 15)).2)) := by
  refine ch_enter rfl rfl ?_
  intro X hl0 h hG hR hnm
  have h : ch_H X E RX5 cX5_test 7 := h
  have hk15 : k ≠ 15 := by omega
  show ch_W X E 7 S μ 0 0 0 [(0, .ref (S.1 15 36 0)), (1, .int 3)] []
  refine ca_iconst h dX5_test_0 ik_0 ?_
  refine ca_istore_n h dX5_test_1 rfl ?_
  refine ca_aload_nr h dX5_test_2 rfl ?_
  refine ca_iload_n h dX5_test_3 rfl ?_
  refine ca_vi h hG ml_X5_52 (c_X5_factor_o3 hs hr hk hq hm) (ci := 5) rfl rfl rfl hr.1 rfl rfl rfl rfl ⟨Nat.le_refl _, Nat.le_refl _⟩ rfl dX5_test_4 ?_
  refine ca_istore_n h dX5_test_7 rfl ?_
  refine ca_iconst h dX5_test_8 ik_0 ?_
  refine ca_istore h dX5_test_9 rfl ?_
  have loop_11 : ∀ (jj n : Nat), n + jj = 200 → ∀ (x4 : Int32) (e4 : x4 = nI n) (p : Int32 × Int32 × ch_N) (g : k_tx p.2.2) (hx : e_tR (e_fac (μ k) 3) (μ 15) = e_tL (e_fac (μ k) 3) jj p) (mm : ch_M) (em : mm = up μ 15 p.2.2), ch_W X E 7 S mm 0 0 11 [(0, .ref (S.1 15 36 0)), (1, .int 3), (2, .int p.1), (3, .int p.2.1), (4, .int x4)] [] := by
    intro jj
    induction jj with
    | zero =>
      intro n hn x4 e4 p g hx mm em
      have hn : n = 200 := by omega
      subst e4 em
      refine ca_iload h dX5_test_11 rfl ?_
      refine ca_sipush h dX5_test_13 sk_200 ?_
      refine ca_icmp_ge (tgt := 98) h dX5_test_16 (by decide) (fun c_16 => ?_) (fun c_16 => ?_)
      ·
        refine ca_iload_n h dX5_test_98 rfl ?_
        refine ca_iload_n h dX5_test_99 rfl ?_
        refine ca_ior h dX5_test_100 ?_
        refine ca_ireturn h hR rfl dX5_test_101 ?_
        have e1 : e_tst (e_fac (μ k) 3) (μ 15) = (p.1 ||| p.2.1, p.2.2) := by unfold e_tst; rw [hx]; rfl
        exact ⟨by rw [e1], rfl, by rw [e1]⟩
      · exact absurd c_16 (by rw [hn]; decide)
    | succ jj ih_11 =>
      intro n hn x4 e4 p g hx mm em
      have hn1 : n < 200 := by omega
      subst e4 em
      refine ca_iload h dX5_test_11 rfl ?_
      refine ca_sipush h dX5_test_13 sk_200 ?_
      refine ca_icmp_ge (tgt := 98) h dX5_test_16 (by decide) (fun c_16 => ?_) (fun c_16 => ?_)
      · exact absurd (nI_lt (b := 200) hn1 (by decide)) c_16
      ·
        refine ca_aload_nr h dX5_test_19 rfl ?_
        refine rd_t5 h hr dX5_test_20 ?_
        refine ca_ldcs h (i := 55) (List.mem_of_getElem? (i := 24) rfl) dX5_test_23 ?_
        refine ca_vi h hG ml_X5_21 (c_X10_is hs (by rw [up_s]; exact g) (by decide)) (ci := 10) rfl rfl rfl (hs.1 _ _ _ ⟨rfl, rfl⟩) rfl rfl rfl rfl ⟨Nat.le_refl _, Nat.le_refl _⟩ rfl dX5_test_25 ?_
        refine ca_top (show _ = bI (t_is p.2.2 23) by rw [up_s]) ?_
        refine ca_istore h dX5_test_28 rfl ?_
        refine ca_iload h dX5_test_30 rfl ?_
        refine ca_if_ne (tgt := 50) h dX5_test_32 (by decide) (fun c_32 => ?_) (fun c_32 => ?_)
        ·
          refine ca_aload_nr h dX5_test_50 rfl ?_
          refine rd_t5 h hr dX5_test_51 ?_
          refine ca_vv h hG ml_X5_33 (c_X10_advance hs (by rw [up_s]; exact g.1)) (ci := 10) rfl rfl rfl (hs.1 _ _ _ ⟨rfl, rfl⟩) rfl rfl rfl rfl ⟨Nat.le_refl _, Nat.le_refl _⟩ rfl dX5_test_54 ?_
          refine ca_mem (μ'' := up μ 15 (t_adv p.2.2)) (by rw [up_s, up_up]) ?_
          refine ca_aload_nr h dX5_test_57 rfl ?_
          refine ca_iload_n h dX5_test_58 rfl ?_
          refine ca_vi h hG ml_X5_52 (c_X5_factor_o3 hs hr hk (by rw [up_s]; exact k_tx_adv g) (by rw [up_n hk15]; exact hm)) (ci := 5) rfl rfl rfl hr.1 rfl rfl rfl rfl ⟨Nat.le_refl _, Nat.le_refl _⟩ rfl dX5_test_59 ?_
          refine ca_top (show _ = ((e_fac (μ k) 3) (t_adv p.2.2)).1 by rw [up_s, up_n hk15]) ?_
          refine ca_mem (μ'' := up μ 15 ((e_fac (μ k) 3) (t_adv p.2.2)).2) (by rw [up_s, up_n hk15, up_up]) ?_
          refine ca_istore h dX5_test_62 rfl ?_
          refine ca_iload h dX5_test_64 rfl ?_
          refine ca_if_eq (tgt := 75) h dX5_test_66 (by decide) (fun c_66 => ?_) (fun c_66 => ?_)
          · exact absurd c_66 c_32
          ·
            refine ca_iload_n h dX5_test_69 rfl ?_
            refine ca_iload_n h dX5_test_70 rfl ?_
            refine ca_ior h dX5_test_71 ?_
            refine ca_goto (tgt := 76) h dX5_test_72 (by decide) ?_
            refine ca_istore_n h dX5_test_76 rfl ?_
            refine ca_iload h dX5_test_77 rfl ?_
            refine ca_if_eq (tgt := 87) h dX5_test_79 (by decide) (fun c_79 => ?_) (fun c_79 => ?_)
            · exact absurd c_79 c_32
            ·
              refine ca_iload h dX5_test_82 rfl ?_
              refine ca_goto (tgt := 91) h dX5_test_84 (by decide) ?_
              refine ca_istore_n h dX5_test_91 rfl ?_
              refine ca_iinc h dX5_test_92 rfl ik_1 rfl ?_
              refine ca_goto (tgt := 11) h dX5_test_95 (by decide) ?_
              refine ca_pick [5, 6, 2, 1, 0] rfl ?_
              exact ih_11 (n + 1) (by omega) _ (nI_1 n) (p.1 ||| p.2.1, ((e_fac (μ k) 3) (t_adv p.2.2)).1, ((e_fac (μ k) 3) (t_adv p.2.2)).2) (e_fac_tx _ _ _ (k_tx_adv g)) (by rw [hx, e_tL, if_pos (bI_n0.mp c_32)]) _ rfl
        ·
          refine ca_aload_nr h dX5_test_35 rfl ?_
          refine rd_t5 h hr dX5_test_36 ?_
          refine ca_ldcs h (i := 57) (List.mem_of_getElem? (i := 25) rfl) dX5_test_39 ?_
          refine ca_vi h hG ml_X5_21 (c_X10_is hs (by rw [up_s]; exact g) (by decide)) (ci := 10) rfl rfl rfl (hs.1 _ _ _ ⟨rfl, rfl⟩) rfl rfl rfl rfl ⟨Nat.le_refl _, Nat.le_refl _⟩ rfl dX5_test_41 ?_
          refine ca_if_ne (tgt := 50) h dX5_test_44 (by decide) (fun c_44 => ?_) (fun c_44 => ?_)
          ·
            refine ca_aload_nr h dX5_test_50 rfl ?_
            refine rd_t5 h hr dX5_test_51 ?_
            refine ca_vv h hG ml_X5_33 (c_X10_advance hs (by rw [up_s]; exact g.1)) (ci := 10) rfl rfl rfl (hs.1 _ _ _ ⟨rfl, rfl⟩) rfl rfl rfl rfl ⟨Nat.le_refl _, Nat.le_refl _⟩ rfl dX5_test_54 ?_
            refine ca_mem (μ'' := up μ 15 (t_adv p.2.2)) (by rw [up_s, up_up]) ?_
            refine ca_aload_nr h dX5_test_57 rfl ?_
            refine ca_iload_n h dX5_test_58 rfl ?_
            refine ca_vi h hG ml_X5_52 (c_X5_factor_o3 hs hr hk (by rw [up_s]; exact k_tx_adv g) (by rw [up_n hk15]; exact hm)) (ci := 5) rfl rfl rfl hr.1 rfl rfl rfl rfl ⟨Nat.le_refl _, Nat.le_refl _⟩ rfl dX5_test_59 ?_
            refine ca_top (show _ = ((e_fac (μ k) 3) (t_adv p.2.2)).1 by rw [up_s, up_n hk15]) ?_
            refine ca_mem (μ'' := up μ 15 ((e_fac (μ k) 3) (t_adv p.2.2)).2) (by rw [up_s, up_n hk15, up_up]) ?_
            refine ca_istore h dX5_test_62 rfl ?_
            refine ca_iload h dX5_test_64 rfl ?_
            refine ca_if_eq (tgt := 75) h dX5_test_66 (by decide) (fun c_66 => ?_) (fun c_66 => ?_)
            ·
              refine ca_iload_n h dX5_test_75 rfl ?_
              refine ca_istore_n h dX5_test_76 rfl ?_
              refine ca_iload h dX5_test_77 rfl ?_
              refine ca_if_eq (tgt := 87) h dX5_test_79 (by decide) (fun c_79 => ?_) (fun c_79 => ?_)
              ·
                refine ca_iload_n h dX5_test_87 rfl ?_
                refine ca_iload h dX5_test_88 rfl ?_
                refine ca_iand h dX5_test_90 ?_
                refine ca_istore_n h dX5_test_91 rfl ?_
                refine ca_iinc h dX5_test_92 rfl ik_1 rfl ?_
                refine ca_goto (tgt := 11) h dX5_test_95 (by decide) ?_
                refine ca_pick [5, 6, 2, 1, 0] rfl ?_
                exact ih_11 (n + 1) (by omega) _ (nI_1 n) (p.1, p.2.1 &&& ((e_fac (μ k) 3) (t_adv p.2.2)).1, ((e_fac (μ k) 3) (t_adv p.2.2)).2) (e_fac_tx _ _ _ (k_tx_adv g)) (by rw [hx, e_tL, if_neg (fun z => bI_n0.mpr z c_32), if_pos (by have c9 := c_44; rw [up_s] at c9; exact bI_n0.mp c9)]) _ rfl
              · exact absurd c_32 c_79
            · exact absurd c_32 c_66
          ·
            refine ca_goto (tgt := 98) h dX5_test_47 (by decide) ?_
            refine ca_iload_n h dX5_test_98 rfl ?_
            refine ca_iload_n h dX5_test_99 rfl ?_
            refine ca_ior h dX5_test_100 ?_
            refine ca_ireturn h hR rfl dX5_test_101 ?_
            have e1 : e_tst (e_fac (μ k) 3) (μ 15) = (p.1 ||| p.2.1, p.2.2) := by unfold e_tst; rw [hx, e_tL, if_neg (fun z => bI_n0.mpr z c_32), if_neg (fun z => by have c9 := c_44; rw [up_s] at c9; exact bI_n0.mpr z c9)]
            exact ⟨by rw [e1], rfl, by rw [e1]⟩
  refine ca_pick [3, 4, 2, 1, 0] rfl ?_
  exact loop_11 _ 0 (Nat.zero_add _) _ rfl (0, ((e_fac (μ k) 3) (μ 15)).1, ((e_fac (μ k) 3) (μ 15)).2) (e_fac_tx _ _ _ hq) rfl _ rfl
set_option maxHeartbeats 100000 in
theorem c_X5_factor_o2 {l : Launch} {E : ch_E} {S : ch_S} {μ : ch_M} {k : Nat} (hs : ch_Std E S) (hr : ch_Rd S 36 k) (hk : k < 15) (hq : k_tx (μ 15)) (hm : k_mc (μ k) ≤ 12) : ch_C E l yX5_factor cX5_factor 4 (some FieldType.int) 16 0 0 S μ [.ref (S.1 15 36 0), .int 2] (ch_F (some (.int ((e_fac (μ k) 4 (μ 15)).1))) S (up μ 15 (e_fac (μ k) 4 (μ 15)).2)) := by
  refine ch_enter rfl rfl ?_
  intro X hl0 h hG hR hnm
  have h : ch_H X E RX5 cX5_factor 4 := h
  have hk15 : k ≠ 15 := by omega
  show ch_W X E 4 S μ 0 0 0 [(0, .ref (S.1 15 36 0)), (1, .int 2)] []
  refine ca_aload_nr h dX5_factor_0 rfl ?_
  refine rd_t5 h hr dX5_factor_1 ?_
  refine ca_ldcs h (i := 59) (List.mem_of_getElem? (i := 10) rfl) dX5_factor_4 ?_
  refine ca_vi h hG ml_X5_21 (c_X10_is hs hq (by decide)) (ci := 10) rfl rfl rfl (hs.1 _ _ _ ⟨rfl, rfl⟩) rfl rfl rfl rfl ⟨Nat.le_refl _, Nat.le_refl _⟩ rfl dX5_factor_6 ?_
  refine ca_istore_n h dX5_factor_9 rfl ?_
  refine ca_iload_n h dX5_factor_10 rfl ?_
  refine ca_if_ne (tgt := 31) h dX5_factor_11 (by decide) (fun c_11 => ?_) (fun c_11 => ?_)
  ·
    refine ca_iload_n h dX5_factor_31 rfl ?_
    refine ca_bipush h dX5_factor_32 bk_6 ?_
    refine ca_icmp_lt (tgt := 47) h dX5_factor_34 (by decide) (fun c_34 => ?_) (fun c_34 => ?_)
    ·
      refine ca_aload_nr h dX5_factor_47 rfl ?_
      refine rd_t5 h hr dX5_factor_48 ?_
      refine ca_vv h hG ml_X5_33 (c_X10_advance hs hq.1) (ci := 10) rfl rfl rfl (hs.1 _ _ _ ⟨rfl, rfl⟩) rfl rfl rfl rfl ⟨Nat.le_refl _, Nat.le_refl _⟩ rfl dX5_factor_51 ?_
      refine ca_iload_n h dX5_factor_54 rfl ?_
      refine ca_if_eq (tgt := 73) h dX5_factor_55 (by decide) (fun c_55 => ?_) (fun c_55 => ?_)
      · exact absurd c_55 c_11
      ·
        refine ca_aload_nr h dX5_factor_58 rfl ?_
        refine ca_vi h hG ml_X5_67 (c_X5_everyMobile hs hr hk) (ci := 5) rfl rfl rfl hr.1 rfl rfl rfl rfl ⟨Nat.le_refl _, Nat.le_refl _⟩ rfl dX5_factor_59 ?_
        refine ca_top (show _ = e_all (μ k) by rw [up_n hk15]) ?_
        refine ca_aload_nr h dX5_factor_62 rfl ?_
        refine ca_iload_n h dX5_factor_63 rfl ?_
        refine ca_iconst h dX5_factor_64 ik_1 ?_
        refine ca_iadd h dX5_factor_65 ?_
        refine ca_top (show _ = 3 from by decide) ?_
        refine ca_vi h hG ml_X5_52 (c_X5_factor_o3 hs hr hk (by rw [up_s]; exact k_tx_adv hq) (by rw [up_n hk15]; exact hm)) (ci := 5) rfl rfl rfl hr.1 rfl rfl rfl rfl ⟨Nat.le_refl _, Nat.le_refl _⟩ rfl dX5_factor_66 ?_
        refine ca_top (show _ = (e_fac (μ k) 3 (t_adv (μ 15))).1 by rw [up_s, up_n hk15]) ?_
        refine ca_mem (μ'' := up μ 15 (e_fac (μ k) 3 (t_adv (μ 15))).2) (by rw [up_s, up_n hk15, up_up]) ?_
        refine ca_iconst h dX5_factor_69 ik_m1 ?_
        refine ca_ixor h dX5_factor_70 ?_
        refine ca_iand h dX5_factor_71 ?_
        refine ca_ireturn h hR rfl dX5_factor_72 ?_
        have e1 : e_fac (μ k) 4 (μ 15) = _ := e_fac_s (μ k) 3 (μ 15)
        rw [if_pos (bI_n0.mp c_11)] at e1
        exact ⟨by rw [e1], rfl, by rw [e1]⟩
    · exact absurd (by decide) c_34
  ·
    refine ca_aload_nr h dX5_factor_14 rfl ?_
    refine rd_t5 h hr dX5_factor_15 ?_
    refine ca_ldcs h (i := 61) (List.mem_of_getElem? (i := 11) rfl) dX5_factor_18 ?_
    refine ca_vi h hG ml_X5_21 (c_X10_is hs hq (by decide)) (ci := 10) rfl rfl rfl (hs.1 _ _ _ ⟨rfl, rfl⟩) rfl rfl rfl rfl ⟨Nat.le_refl _, Nat.le_refl _⟩ rfl dX5_factor_20 ?_
    refine ca_if_ne (tgt := 31) h dX5_factor_23 (by decide) (fun c_23 => ?_) (fun c_23 => ?_)
    ·
      refine ca_iload_n h dX5_factor_31 rfl ?_
      refine ca_bipush h dX5_factor_32 bk_6 ?_
      refine ca_icmp_lt (tgt := 47) h dX5_factor_34 (by decide) (fun c_34 => ?_) (fun c_34 => ?_)
      ·
        refine ca_aload_nr h dX5_factor_47 rfl ?_
        refine rd_t5 h hr dX5_factor_48 ?_
        refine ca_vv h hG ml_X5_33 (c_X10_advance hs hq.1) (ci := 10) rfl rfl rfl (hs.1 _ _ _ ⟨rfl, rfl⟩) rfl rfl rfl rfl ⟨Nat.le_refl _, Nat.le_refl _⟩ rfl dX5_factor_51 ?_
        refine ca_iload_n h dX5_factor_54 rfl ?_
        refine ca_if_eq (tgt := 73) h dX5_factor_55 (by decide) (fun c_55 => ?_) (fun c_55 => ?_)
        ·
          refine ca_aload_nr h dX5_factor_73 rfl ?_
          refine ca_iload_n h dX5_factor_74 rfl ?_
          refine ca_iconst h dX5_factor_75 ik_1 ?_
          refine ca_iadd h dX5_factor_76 ?_
          refine ca_top (show _ = 3 from by decide) ?_
          refine ca_vi h hG ml_X5_36 (c_X5_test_o3 hs hr hk (by rw [up_s]; exact k_tx_adv hq) (by rw [up_n hk15]; exact hm)) (ci := 5) rfl rfl rfl hr.1 rfl rfl rfl rfl ⟨Nat.le_refl _, Nat.le_refl _⟩ rfl dX5_factor_77 ?_
          refine ca_top (show _ = (e_tst (e_fac (μ k) 3) (t_adv (μ 15))).1 by rw [up_s, up_n hk15]) ?_
          refine ca_mem (μ'' := up μ 15 (e_tst (e_fac (μ k) 3) (t_adv (μ 15))).2) (by rw [up_s, up_n hk15, up_up]) ?_
          refine ca_istore_n h dX5_factor_80 rfl ?_
          refine ca_aload_nr h dX5_factor_81 rfl ?_
          refine rd_t5 h hr dX5_factor_82 ?_
          refine ca_ldcs h (i := 70) (List.mem_of_getElem? (i := 23) rfl) dX5_factor_85 ?_
          refine ca_vv h hG ml_X5_72 (c_X10_expect hs (by rw [up_s]; exact e_tst_tx (e_fac_tx (μ k) 3) (k_tx_adv hq)) (by decide)) (ci := 10) rfl rfl rfl (hs.1 _ _ _ ⟨rfl, rfl⟩) rfl rfl rfl rfl ⟨Nat.le_refl _, Nat.le_refl _⟩ rfl dX5_factor_87 ?_
          refine ca_mem (by rw [up_s, up_up]) ?_
          refine ca_iload_n h dX5_factor_90 rfl ?_
          refine ca_ireturn h hR rfl dX5_factor_91 ?_
          have e1 : e_fac (μ k) 4 (μ 15) = _ := e_fac_s (μ k) 3 (μ 15)
          rw [if_neg (fun z => bI_n0.mpr z c_11), if_pos (bI_n0.mp c_23)] at e1
          exact ⟨by rw [e1], rfl, by rw [e1]⟩
        · exact absurd c_11 c_55
      · exact absurd (by decide) c_34
    ·
      refine ca_aload_nr h dX5_factor_26 rfl ?_
      refine ca_vi h hG ml_X5_63 (c_X5_comparison hs hr hk hq hm) (ci := 5) rfl rfl rfl hr.1 rfl rfl rfl rfl ⟨Nat.le_refl _, Nat.le_refl _⟩ rfl dX5_factor_27 ?_
      refine ca_ireturn h hR rfl dX5_factor_30 ?_
      have e1 : e_fac (μ k) 4 (μ 15) = _ := e_fac_s (μ k) 3 (μ 15)
      rw [if_neg (fun z => bI_n0.mpr z c_11), if_neg (fun z => bI_n0.mpr z c_23)] at e1
      exact ⟨by rw [e1], rfl, by rw [e1]⟩
set_option maxHeartbeats 100000 in
theorem c_X5_test_o2 {l : Launch} {E : ch_E} {S : ch_S} {μ : ch_M} {k : Nat} (hs : ch_Std E S) (hr : ch_Rd S 36 k) (hk : k < 15) (hq : k_tx (μ 15)) (hm : k_mc (μ k) ≤ 12) : ch_C E l yX5_test cX5_test 7 (some FieldType.int) 17 0 0 S μ [.ref (S.1 15 36 0), .int 2] (ch_F (some (.int ((e_tst (e_fac (μ k) 4) (μ 15)).1))) S (up μ 15 (e_tst (e_fac (μ k) 4) (μ 15)).2)) := by
  refine ch_enter rfl rfl ?_
  intro X hl0 h hG hR hnm
  have h : ch_H X E RX5 cX5_test 7 := h
  have hk15 : k ≠ 15 := by omega
  show ch_W X E 7 S μ 0 0 0 [(0, .ref (S.1 15 36 0)), (1, .int 2)] []
  refine ca_iconst h dX5_test_0 ik_0 ?_
  refine ca_istore_n h dX5_test_1 rfl ?_
  refine ca_aload_nr h dX5_test_2 rfl ?_
  refine ca_iload_n h dX5_test_3 rfl ?_
  refine ca_vi h hG ml_X5_52 (c_X5_factor_o2 hs hr hk hq hm) (ci := 5) rfl rfl rfl hr.1 rfl rfl rfl rfl ⟨Nat.le_refl _, Nat.le_refl _⟩ rfl dX5_test_4 ?_
  refine ca_istore_n h dX5_test_7 rfl ?_
  refine ca_iconst h dX5_test_8 ik_0 ?_
  refine ca_istore h dX5_test_9 rfl ?_
  have loop_11 : ∀ (jj n : Nat), n + jj = 200 → ∀ (x4 : Int32) (e4 : x4 = nI n) (p : Int32 × Int32 × ch_N) (g : k_tx p.2.2) (hx : e_tR (e_fac (μ k) 4) (μ 15) = e_tL (e_fac (μ k) 4) jj p) (mm : ch_M) (em : mm = up μ 15 p.2.2), ch_W X E 7 S mm 0 0 11 [(0, .ref (S.1 15 36 0)), (1, .int 2), (2, .int p.1), (3, .int p.2.1), (4, .int x4)] [] := by
    intro jj
    induction jj with
    | zero =>
      intro n hn x4 e4 p g hx mm em
      have hn : n = 200 := by omega
      subst e4 em
      refine ca_iload h dX5_test_11 rfl ?_
      refine ca_sipush h dX5_test_13 sk_200 ?_
      refine ca_icmp_ge (tgt := 98) h dX5_test_16 (by decide) (fun c_16 => ?_) (fun c_16 => ?_)
      ·
        refine ca_iload_n h dX5_test_98 rfl ?_
        refine ca_iload_n h dX5_test_99 rfl ?_
        refine ca_ior h dX5_test_100 ?_
        refine ca_ireturn h hR rfl dX5_test_101 ?_
        have e1 : e_tst (e_fac (μ k) 4) (μ 15) = (p.1 ||| p.2.1, p.2.2) := by unfold e_tst; rw [hx]; rfl
        exact ⟨by rw [e1], rfl, by rw [e1]⟩
      · exact absurd c_16 (by rw [hn]; decide)
    | succ jj ih_11 =>
      intro n hn x4 e4 p g hx mm em
      have hn1 : n < 200 := by omega
      subst e4 em
      refine ca_iload h dX5_test_11 rfl ?_
      refine ca_sipush h dX5_test_13 sk_200 ?_
      refine ca_icmp_ge (tgt := 98) h dX5_test_16 (by decide) (fun c_16 => ?_) (fun c_16 => ?_)
      · exact absurd (nI_lt (b := 200) hn1 (by decide)) c_16
      ·
        refine ca_aload_nr h dX5_test_19 rfl ?_
        refine rd_t5 h hr dX5_test_20 ?_
        refine ca_ldcs h (i := 55) (List.mem_of_getElem? (i := 24) rfl) dX5_test_23 ?_
        refine ca_vi h hG ml_X5_21 (c_X10_is hs (by rw [up_s]; exact g) (by decide)) (ci := 10) rfl rfl rfl (hs.1 _ _ _ ⟨rfl, rfl⟩) rfl rfl rfl rfl ⟨Nat.le_refl _, Nat.le_refl _⟩ rfl dX5_test_25 ?_
        refine ca_top (show _ = bI (t_is p.2.2 23) by rw [up_s]) ?_
        refine ca_istore h dX5_test_28 rfl ?_
        refine ca_iload h dX5_test_30 rfl ?_
        refine ca_if_ne (tgt := 50) h dX5_test_32 (by decide) (fun c_32 => ?_) (fun c_32 => ?_)
        ·
          refine ca_aload_nr h dX5_test_50 rfl ?_
          refine rd_t5 h hr dX5_test_51 ?_
          refine ca_vv h hG ml_X5_33 (c_X10_advance hs (by rw [up_s]; exact g.1)) (ci := 10) rfl rfl rfl (hs.1 _ _ _ ⟨rfl, rfl⟩) rfl rfl rfl rfl ⟨Nat.le_refl _, Nat.le_refl _⟩ rfl dX5_test_54 ?_
          refine ca_mem (μ'' := up μ 15 (t_adv p.2.2)) (by rw [up_s, up_up]) ?_
          refine ca_aload_nr h dX5_test_57 rfl ?_
          refine ca_iload_n h dX5_test_58 rfl ?_
          refine ca_vi h hG ml_X5_52 (c_X5_factor_o2 hs hr hk (by rw [up_s]; exact k_tx_adv g) (by rw [up_n hk15]; exact hm)) (ci := 5) rfl rfl rfl hr.1 rfl rfl rfl rfl ⟨Nat.le_refl _, Nat.le_refl _⟩ rfl dX5_test_59 ?_
          refine ca_top (show _ = ((e_fac (μ k) 4) (t_adv p.2.2)).1 by rw [up_s, up_n hk15]) ?_
          refine ca_mem (μ'' := up μ 15 ((e_fac (μ k) 4) (t_adv p.2.2)).2) (by rw [up_s, up_n hk15, up_up]) ?_
          refine ca_istore h dX5_test_62 rfl ?_
          refine ca_iload h dX5_test_64 rfl ?_
          refine ca_if_eq (tgt := 75) h dX5_test_66 (by decide) (fun c_66 => ?_) (fun c_66 => ?_)
          · exact absurd c_66 c_32
          ·
            refine ca_iload_n h dX5_test_69 rfl ?_
            refine ca_iload_n h dX5_test_70 rfl ?_
            refine ca_ior h dX5_test_71 ?_
            refine ca_goto (tgt := 76) h dX5_test_72 (by decide) ?_
            refine ca_istore_n h dX5_test_76 rfl ?_
            refine ca_iload h dX5_test_77 rfl ?_
            refine ca_if_eq (tgt := 87) h dX5_test_79 (by decide) (fun c_79 => ?_) (fun c_79 => ?_)
            · exact absurd c_79 c_32
            ·
              refine ca_iload h dX5_test_82 rfl ?_
              refine ca_goto (tgt := 91) h dX5_test_84 (by decide) ?_
              refine ca_istore_n h dX5_test_91 rfl ?_
              refine ca_iinc h dX5_test_92 rfl ik_1 rfl ?_
              refine ca_goto (tgt := 11) h dX5_test_95 (by decide) ?_
              refine ca_pick [5, 6, 2, 1, 0] rfl ?_
              exact ih_11 (n + 1) (by omega) _ (nI_1 n) (p.1 ||| p.2.1, ((e_fac (μ k) 4) (t_adv p.2.2)).1, ((e_fac (μ k) 4) (t_adv p.2.2)).2) (e_fac_tx _ _ _ (k_tx_adv g)) (by rw [hx, e_tL, if_pos (bI_n0.mp c_32)]) _ rfl
        ·
          refine ca_aload_nr h dX5_test_35 rfl ?_
          refine rd_t5 h hr dX5_test_36 ?_
          refine ca_ldcs h (i := 57) (List.mem_of_getElem? (i := 25) rfl) dX5_test_39 ?_
          refine ca_vi h hG ml_X5_21 (c_X10_is hs (by rw [up_s]; exact g) (by decide)) (ci := 10) rfl rfl rfl (hs.1 _ _ _ ⟨rfl, rfl⟩) rfl rfl rfl rfl ⟨Nat.le_refl _, Nat.le_refl _⟩ rfl dX5_test_41 ?_
          refine ca_if_ne (tgt := 50) h dX5_test_44 (by decide) (fun c_44 => ?_) (fun c_44 => ?_)
          ·
            refine ca_aload_nr h dX5_test_50 rfl ?_
            refine rd_t5 h hr dX5_test_51 ?_
            refine ca_vv h hG ml_X5_33 (c_X10_advance hs (by rw [up_s]; exact g.1)) (ci := 10) rfl rfl rfl (hs.1 _ _ _ ⟨rfl, rfl⟩) rfl rfl rfl rfl ⟨Nat.le_refl _, Nat.le_refl _⟩ rfl dX5_test_54 ?_
            refine ca_mem (μ'' := up μ 15 (t_adv p.2.2)) (by rw [up_s, up_up]) ?_
            refine ca_aload_nr h dX5_test_57 rfl ?_
            refine ca_iload_n h dX5_test_58 rfl ?_
            refine ca_vi h hG ml_X5_52 (c_X5_factor_o2 hs hr hk (by rw [up_s]; exact k_tx_adv g) (by rw [up_n hk15]; exact hm)) (ci := 5) rfl rfl rfl hr.1 rfl rfl rfl rfl ⟨Nat.le_refl _, Nat.le_refl _⟩ rfl dX5_test_59 ?_
            refine ca_top (show _ = ((e_fac (μ k) 4) (t_adv p.2.2)).1 by rw [up_s, up_n hk15]) ?_
            refine ca_mem (μ'' := up μ 15 ((e_fac (μ k) 4) (t_adv p.2.2)).2) (by rw [up_s, up_n hk15, up_up]) ?_
            refine ca_istore h dX5_test_62 rfl ?_
            refine ca_iload h dX5_test_64 rfl ?_
            refine ca_if_eq (tgt := 75) h dX5_test_66 (by decide) (fun c_66 => ?_) (fun c_66 => ?_)
            ·
              refine ca_iload_n h dX5_test_75 rfl ?_
              refine ca_istore_n h dX5_test_76 rfl ?_
              refine ca_iload h dX5_test_77 rfl ?_
              refine ca_if_eq (tgt := 87) h dX5_test_79 (by decide) (fun c_79 => ?_) (fun c_79 => ?_)
              ·
                refine ca_iload_n h dX5_test_87 rfl ?_
                refine ca_iload h dX5_test_88 rfl ?_
                refine ca_iand h dX5_test_90 ?_
                refine ca_istore_n h dX5_test_91 rfl ?_
                refine ca_iinc h dX5_test_92 rfl ik_1 rfl ?_
                refine ca_goto (tgt := 11) h dX5_test_95 (by decide) ?_
                refine ca_pick [5, 6, 2, 1, 0] rfl ?_
                exact ih_11 (n + 1) (by omega) _ (nI_1 n) (p.1, p.2.1 &&& ((e_fac (μ k) 4) (t_adv p.2.2)).1, ((e_fac (μ k) 4) (t_adv p.2.2)).2) (e_fac_tx _ _ _ (k_tx_adv g)) (by rw [hx, e_tL, if_neg (fun z => bI_n0.mpr z c_32), if_pos (by have c9 := c_44; rw [up_s] at c9; exact bI_n0.mp c9)]) _ rfl
              · exact absurd c_32 c_79
            · exact absurd c_32 c_66
          ·
            refine ca_goto (tgt := 98) h dX5_test_47 (by decide) ?_
            refine ca_iload_n h dX5_test_98 rfl ?_
            refine ca_iload_n h dX5_test_99 rfl ?_
            refine ca_ior h dX5_test_100 ?_
            refine ca_ireturn h hR rfl dX5_test_101 ?_
            have e1 : e_tst (e_fac (μ k) 4) (μ 15) = (p.1 ||| p.2.1, p.2.2) := by unfold e_tst; rw [hx, e_tL, if_neg (fun z => bI_n0.mpr z c_32), if_neg (fun z => by have c9 := c_44; rw [up_s] at c9; exact bI_n0.mpr z c9)]
            exact ⟨by rw [e1], rfl, by rw [e1]⟩
  refine ca_pick [3, 4, 2, 1, 0] rfl ?_
  exact loop_11 _ 0 (Nat.zero_add _) _ rfl (0, ((e_fac (μ k) 4) (μ 15)).1, ((e_fac (μ k) 4) (μ 15)).2) (e_fac_tx _ _ _ hq) rfl _ rfl
set_option maxHeartbeats 100000 in
theorem c_X5_factor_o1 {l : Launch} {E : ch_E} {S : ch_S} {μ : ch_M} {k : Nat} (hs : ch_Std E S) (hr : ch_Rd S 36 k) (hk : k < 15) (hq : k_tx (μ 15)) (hm : k_mc (μ k) ≤ 12) : ch_C E l yX5_factor cX5_factor 4 (some FieldType.int) 18 0 0 S μ [.ref (S.1 15 36 0), .int 1] (ch_F (some (.int ((e_fac (μ k) 5 (μ 15)).1))) S (up μ 15 (e_fac (μ k) 5 (μ 15)).2)) := by
  refine ch_enter rfl rfl ?_
  intro X hl0 h hG hR hnm
  have h : ch_H X E RX5 cX5_factor 4 := h
  have hk15 : k ≠ 15 := by omega
  show ch_W X E 4 S μ 0 0 0 [(0, .ref (S.1 15 36 0)), (1, .int 1)] []
  refine ca_aload_nr h dX5_factor_0 rfl ?_
  refine rd_t5 h hr dX5_factor_1 ?_
  refine ca_ldcs h (i := 59) (List.mem_of_getElem? (i := 10) rfl) dX5_factor_4 ?_
  refine ca_vi h hG ml_X5_21 (c_X10_is hs hq (by decide)) (ci := 10) rfl rfl rfl (hs.1 _ _ _ ⟨rfl, rfl⟩) rfl rfl rfl rfl ⟨Nat.le_refl _, Nat.le_refl _⟩ rfl dX5_factor_6 ?_
  refine ca_istore_n h dX5_factor_9 rfl ?_
  refine ca_iload_n h dX5_factor_10 rfl ?_
  refine ca_if_ne (tgt := 31) h dX5_factor_11 (by decide) (fun c_11 => ?_) (fun c_11 => ?_)
  ·
    refine ca_iload_n h dX5_factor_31 rfl ?_
    refine ca_bipush h dX5_factor_32 bk_6 ?_
    refine ca_icmp_lt (tgt := 47) h dX5_factor_34 (by decide) (fun c_34 => ?_) (fun c_34 => ?_)
    ·
      refine ca_aload_nr h dX5_factor_47 rfl ?_
      refine rd_t5 h hr dX5_factor_48 ?_
      refine ca_vv h hG ml_X5_33 (c_X10_advance hs hq.1) (ci := 10) rfl rfl rfl (hs.1 _ _ _ ⟨rfl, rfl⟩) rfl rfl rfl rfl ⟨Nat.le_refl _, Nat.le_refl _⟩ rfl dX5_factor_51 ?_
      refine ca_iload_n h dX5_factor_54 rfl ?_
      refine ca_if_eq (tgt := 73) h dX5_factor_55 (by decide) (fun c_55 => ?_) (fun c_55 => ?_)
      · exact absurd c_55 c_11
      ·
        refine ca_aload_nr h dX5_factor_58 rfl ?_
        refine ca_vi h hG ml_X5_67 (c_X5_everyMobile hs hr hk) (ci := 5) rfl rfl rfl hr.1 rfl rfl rfl rfl ⟨Nat.le_refl _, Nat.le_refl _⟩ rfl dX5_factor_59 ?_
        refine ca_top (show _ = e_all (μ k) by rw [up_n hk15]) ?_
        refine ca_aload_nr h dX5_factor_62 rfl ?_
        refine ca_iload_n h dX5_factor_63 rfl ?_
        refine ca_iconst h dX5_factor_64 ik_1 ?_
        refine ca_iadd h dX5_factor_65 ?_
        refine ca_top (show _ = 2 from by decide) ?_
        refine ca_vi h hG ml_X5_52 (c_X5_factor_o2 hs hr hk (by rw [up_s]; exact k_tx_adv hq) (by rw [up_n hk15]; exact hm)) (ci := 5) rfl rfl rfl hr.1 rfl rfl rfl rfl ⟨Nat.le_refl _, Nat.le_refl _⟩ rfl dX5_factor_66 ?_
        refine ca_top (show _ = (e_fac (μ k) 4 (t_adv (μ 15))).1 by rw [up_s, up_n hk15]) ?_
        refine ca_mem (μ'' := up μ 15 (e_fac (μ k) 4 (t_adv (μ 15))).2) (by rw [up_s, up_n hk15, up_up]) ?_
        refine ca_iconst h dX5_factor_69 ik_m1 ?_
        refine ca_ixor h dX5_factor_70 ?_
        refine ca_iand h dX5_factor_71 ?_
        refine ca_ireturn h hR rfl dX5_factor_72 ?_
        have e1 : e_fac (μ k) 5 (μ 15) = _ := e_fac_s (μ k) 4 (μ 15)
        rw [if_pos (bI_n0.mp c_11)] at e1
        exact ⟨by rw [e1], rfl, by rw [e1]⟩
    · exact absurd (by decide) c_34
  ·
    refine ca_aload_nr h dX5_factor_14 rfl ?_
    refine rd_t5 h hr dX5_factor_15 ?_
    refine ca_ldcs h (i := 61) (List.mem_of_getElem? (i := 11) rfl) dX5_factor_18 ?_
    refine ca_vi h hG ml_X5_21 (c_X10_is hs hq (by decide)) (ci := 10) rfl rfl rfl (hs.1 _ _ _ ⟨rfl, rfl⟩) rfl rfl rfl rfl ⟨Nat.le_refl _, Nat.le_refl _⟩ rfl dX5_factor_20 ?_
    refine ca_if_ne (tgt := 31) h dX5_factor_23 (by decide) (fun c_23 => ?_) (fun c_23 => ?_)
    ·
      refine ca_iload_n h dX5_factor_31 rfl ?_
      refine ca_bipush h dX5_factor_32 bk_6 ?_
      refine ca_icmp_lt (tgt := 47) h dX5_factor_34 (by decide) (fun c_34 => ?_) (fun c_34 => ?_)
      ·
        refine ca_aload_nr h dX5_factor_47 rfl ?_
        refine rd_t5 h hr dX5_factor_48 ?_
        refine ca_vv h hG ml_X5_33 (c_X10_advance hs hq.1) (ci := 10) rfl rfl rfl (hs.1 _ _ _ ⟨rfl, rfl⟩) rfl rfl rfl rfl ⟨Nat.le_refl _, Nat.le_refl _⟩ rfl dX5_factor_51 ?_
        refine ca_iload_n h dX5_factor_54 rfl ?_
        refine ca_if_eq (tgt := 73) h dX5_factor_55 (by decide) (fun c_55 => ?_) (fun c_55 => ?_)
        ·
          refine ca_aload_nr h dX5_factor_73 rfl ?_
          refine ca_iload_n h dX5_factor_74 rfl ?_
          refine ca_iconst h dX5_factor_75 ik_1 ?_
          refine ca_iadd h dX5_factor_76 ?_
          refine ca_top (show _ = 2 from by decide) ?_
          refine ca_vi h hG ml_X5_36 (c_X5_test_o2 hs hr hk (by rw [up_s]; exact k_tx_adv hq) (by rw [up_n hk15]; exact hm)) (ci := 5) rfl rfl rfl hr.1 rfl rfl rfl rfl ⟨Nat.le_refl _, Nat.le_refl _⟩ rfl dX5_factor_77 ?_
          refine ca_top (show _ = (e_tst (e_fac (μ k) 4) (t_adv (μ 15))).1 by rw [up_s, up_n hk15]) ?_
          refine ca_mem (μ'' := up μ 15 (e_tst (e_fac (μ k) 4) (t_adv (μ 15))).2) (by rw [up_s, up_n hk15, up_up]) ?_
          refine ca_istore_n h dX5_factor_80 rfl ?_
          refine ca_aload_nr h dX5_factor_81 rfl ?_
          refine rd_t5 h hr dX5_factor_82 ?_
          refine ca_ldcs h (i := 70) (List.mem_of_getElem? (i := 23) rfl) dX5_factor_85 ?_
          refine ca_vv h hG ml_X5_72 (c_X10_expect hs (by rw [up_s]; exact e_tst_tx (e_fac_tx (μ k) 4) (k_tx_adv hq)) (by decide)) (ci := 10) rfl rfl rfl (hs.1 _ _ _ ⟨rfl, rfl⟩) rfl rfl rfl rfl ⟨Nat.le_refl _, Nat.le_refl _⟩ rfl dX5_factor_87 ?_
          refine ca_mem (by rw [up_s, up_up]) ?_
          refine ca_iload_n h dX5_factor_90 rfl ?_
          refine ca_ireturn h hR rfl dX5_factor_91 ?_
          have e1 : e_fac (μ k) 5 (μ 15) = _ := e_fac_s (μ k) 4 (μ 15)
          rw [if_neg (fun z => bI_n0.mpr z c_11), if_pos (bI_n0.mp c_23)] at e1
          exact ⟨by rw [e1], rfl, by rw [e1]⟩
        · exact absurd c_11 c_55
      · exact absurd (by decide) c_34
    ·
      refine ca_aload_nr h dX5_factor_26 rfl ?_
      refine ca_vi h hG ml_X5_63 (c_X5_comparison hs hr hk hq hm) (ci := 5) rfl rfl rfl hr.1 rfl rfl rfl rfl ⟨Nat.le_refl _, Nat.le_refl _⟩ rfl dX5_factor_27 ?_
      refine ca_ireturn h hR rfl dX5_factor_30 ?_
      have e1 : e_fac (μ k) 5 (μ 15) = _ := e_fac_s (μ k) 4 (μ 15)
      rw [if_neg (fun z => bI_n0.mpr z c_11), if_neg (fun z => bI_n0.mpr z c_23)] at e1
      exact ⟨by rw [e1], rfl, by rw [e1]⟩
set_option maxHeartbeats 100000 in
theorem c_X5_test_o1 {l : Launch} {E : ch_E} {S : ch_S} {μ : ch_M} {k : Nat} (hs : ch_Std E S) (hr : ch_Rd S 36 k) (hk : k < 15) (hq : k_tx (μ 15)) (hm : k_mc (μ k) ≤ 12) : ch_C E l yX5_test cX5_test 7 (some FieldType.int) 19 0 0 S μ [.ref (S.1 15 36 0), .int 1] (ch_F (some (.int ((e_tst (e_fac (μ k) 5) (μ 15)).1))) S (up μ 15 (e_tst (e_fac (μ k) 5) (μ 15)).2)) := by
  refine ch_enter rfl rfl ?_
  intro X hl0 h hG hR hnm
  have h : ch_H X E RX5 cX5_test 7 := h
  have hk15 : k ≠ 15 := by omega
  show ch_W X E 7 S μ 0 0 0 [(0, .ref (S.1 15 36 0)), (1, .int 1)] []
  refine ca_iconst h dX5_test_0 ik_0 ?_
  refine ca_istore_n h dX5_test_1 rfl ?_
  refine ca_aload_nr h dX5_test_2 rfl ?_
  refine ca_iload_n h dX5_test_3 rfl ?_
  refine ca_vi h hG ml_X5_52 (c_X5_factor_o1 hs hr hk hq hm) (ci := 5) rfl rfl rfl hr.1 rfl rfl rfl rfl ⟨Nat.le_refl _, Nat.le_refl _⟩ rfl dX5_test_4 ?_
  refine ca_istore_n h dX5_test_7 rfl ?_
  refine ca_iconst h dX5_test_8 ik_0 ?_
  refine ca_istore h dX5_test_9 rfl ?_
  have loop_11 : ∀ (jj n : Nat), n + jj = 200 → ∀ (x4 : Int32) (e4 : x4 = nI n) (p : Int32 × Int32 × ch_N) (g : k_tx p.2.2) (hx : e_tR (e_fac (μ k) 5) (μ 15) = e_tL (e_fac (μ k) 5) jj p) (mm : ch_M) (em : mm = up μ 15 p.2.2), ch_W X E 7 S mm 0 0 11 [(0, .ref (S.1 15 36 0)), (1, .int 1), (2, .int p.1), (3, .int p.2.1), (4, .int x4)] [] := by
    intro jj
    induction jj with
    | zero =>
      intro n hn x4 e4 p g hx mm em
      have hn : n = 200 := by omega
      subst e4 em
      refine ca_iload h dX5_test_11 rfl ?_
      refine ca_sipush h dX5_test_13 sk_200 ?_
      refine ca_icmp_ge (tgt := 98) h dX5_test_16 (by decide) (fun c_16 => ?_) (fun c_16 => ?_)
      ·
        refine ca_iload_n h dX5_test_98 rfl ?_
        refine ca_iload_n h dX5_test_99 rfl ?_
        refine ca_ior h dX5_test_100 ?_
        refine ca_ireturn h hR rfl dX5_test_101 ?_
        have e1 : e_tst (e_fac (μ k) 5) (μ 15) = (p.1 ||| p.2.1, p.2.2) := by unfold e_tst; rw [hx]; rfl
        exact ⟨by rw [e1], rfl, by rw [e1]⟩
      · exact absurd c_16 (by rw [hn]; decide)
    | succ jj ih_11 =>
      intro n hn x4 e4 p g hx mm em
      have hn1 : n < 200 := by omega
      subst e4 em
      refine ca_iload h dX5_test_11 rfl ?_
      refine ca_sipush h dX5_test_13 sk_200 ?_
      refine ca_icmp_ge (tgt := 98) h dX5_test_16 (by decide) (fun c_16 => ?_) (fun c_16 => ?_)
      · exact absurd (nI_lt (b := 200) hn1 (by decide)) c_16
      ·
        refine ca_aload_nr h dX5_test_19 rfl ?_
        refine rd_t5 h hr dX5_test_20 ?_
        refine ca_ldcs h (i := 55) (List.mem_of_getElem? (i := 24) rfl) dX5_test_23 ?_
        refine ca_vi h hG ml_X5_21 (c_X10_is hs (by rw [up_s]; exact g) (by decide)) (ci := 10) rfl rfl rfl (hs.1 _ _ _ ⟨rfl, rfl⟩) rfl rfl rfl rfl ⟨Nat.le_refl _, Nat.le_refl _⟩ rfl dX5_test_25 ?_
        refine ca_top (show _ = bI (t_is p.2.2 23) by rw [up_s]) ?_
        refine ca_istore h dX5_test_28 rfl ?_
        refine ca_iload h dX5_test_30 rfl ?_
        refine ca_if_ne (tgt := 50) h dX5_test_32 (by decide) (fun c_32 => ?_) (fun c_32 => ?_)
        ·
          refine ca_aload_nr h dX5_test_50 rfl ?_
          refine rd_t5 h hr dX5_test_51 ?_
          refine ca_vv h hG ml_X5_33 (c_X10_advance hs (by rw [up_s]; exact g.1)) (ci := 10) rfl rfl rfl (hs.1 _ _ _ ⟨rfl, rfl⟩) rfl rfl rfl rfl ⟨Nat.le_refl _, Nat.le_refl _⟩ rfl dX5_test_54 ?_
          refine ca_mem (μ'' := up μ 15 (t_adv p.2.2)) (by rw [up_s, up_up]) ?_
          refine ca_aload_nr h dX5_test_57 rfl ?_
          refine ca_iload_n h dX5_test_58 rfl ?_
          refine ca_vi h hG ml_X5_52 (c_X5_factor_o1 hs hr hk (by rw [up_s]; exact k_tx_adv g) (by rw [up_n hk15]; exact hm)) (ci := 5) rfl rfl rfl hr.1 rfl rfl rfl rfl ⟨Nat.le_refl _, Nat.le_refl _⟩ rfl dX5_test_59 ?_
          refine ca_top (show _ = ((e_fac (μ k) 5) (t_adv p.2.2)).1 by rw [up_s, up_n hk15]) ?_
          refine ca_mem (μ'' := up μ 15 ((e_fac (μ k) 5) (t_adv p.2.2)).2) (by rw [up_s, up_n hk15, up_up]) ?_
          refine ca_istore h dX5_test_62 rfl ?_
          refine ca_iload h dX5_test_64 rfl ?_
          refine ca_if_eq (tgt := 75) h dX5_test_66 (by decide) (fun c_66 => ?_) (fun c_66 => ?_)
          · exact absurd c_66 c_32
          ·
            refine ca_iload_n h dX5_test_69 rfl ?_
            refine ca_iload_n h dX5_test_70 rfl ?_
            refine ca_ior h dX5_test_71 ?_
            refine ca_goto (tgt := 76) h dX5_test_72 (by decide) ?_
            refine ca_istore_n h dX5_test_76 rfl ?_
            refine ca_iload h dX5_test_77 rfl ?_
            refine ca_if_eq (tgt := 87) h dX5_test_79 (by decide) (fun c_79 => ?_) (fun c_79 => ?_)
            · exact absurd c_79 c_32
            ·
              refine ca_iload h dX5_test_82 rfl ?_
              refine ca_goto (tgt := 91) h dX5_test_84 (by decide) ?_
              refine ca_istore_n h dX5_test_91 rfl ?_
              refine ca_iinc h dX5_test_92 rfl ik_1 rfl ?_
              refine ca_goto (tgt := 11) h dX5_test_95 (by decide) ?_
              refine ca_pick [5, 6, 2, 1, 0] rfl ?_
              exact ih_11 (n + 1) (by omega) _ (nI_1 n) (p.1 ||| p.2.1, ((e_fac (μ k) 5) (t_adv p.2.2)).1, ((e_fac (μ k) 5) (t_adv p.2.2)).2) (e_fac_tx _ _ _ (k_tx_adv g)) (by rw [hx, e_tL, if_pos (bI_n0.mp c_32)]) _ rfl
        ·
          refine ca_aload_nr h dX5_test_35 rfl ?_
          refine rd_t5 h hr dX5_test_36 ?_
          refine ca_ldcs h (i := 57) (List.mem_of_getElem? (i := 25) rfl) dX5_test_39 ?_
          refine ca_vi h hG ml_X5_21 (c_X10_is hs (by rw [up_s]; exact g) (by decide)) (ci := 10) rfl rfl rfl (hs.1 _ _ _ ⟨rfl, rfl⟩) rfl rfl rfl rfl ⟨Nat.le_refl _, Nat.le_refl _⟩ rfl dX5_test_41 ?_
          refine ca_if_ne (tgt := 50) h dX5_test_44 (by decide) (fun c_44 => ?_) (fun c_44 => ?_)
          ·
            refine ca_aload_nr h dX5_test_50 rfl ?_
            refine rd_t5 h hr dX5_test_51 ?_
            refine ca_vv h hG ml_X5_33 (c_X10_advance hs (by rw [up_s]; exact g.1)) (ci := 10) rfl rfl rfl (hs.1 _ _ _ ⟨rfl, rfl⟩) rfl rfl rfl rfl ⟨Nat.le_refl _, Nat.le_refl _⟩ rfl dX5_test_54 ?_
            refine ca_mem (μ'' := up μ 15 (t_adv p.2.2)) (by rw [up_s, up_up]) ?_
            refine ca_aload_nr h dX5_test_57 rfl ?_
            refine ca_iload_n h dX5_test_58 rfl ?_
            refine ca_vi h hG ml_X5_52 (c_X5_factor_o1 hs hr hk (by rw [up_s]; exact k_tx_adv g) (by rw [up_n hk15]; exact hm)) (ci := 5) rfl rfl rfl hr.1 rfl rfl rfl rfl ⟨Nat.le_refl _, Nat.le_refl _⟩ rfl dX5_test_59 ?_
            refine ca_top (show _ = ((e_fac (μ k) 5) (t_adv p.2.2)).1 by rw [up_s, up_n hk15]) ?_
            refine ca_mem (μ'' := up μ 15 ((e_fac (μ k) 5) (t_adv p.2.2)).2) (by rw [up_s, up_n hk15, up_up]) ?_
            refine ca_istore h dX5_test_62 rfl ?_
            refine ca_iload h dX5_test_64 rfl ?_
            refine ca_if_eq (tgt := 75) h dX5_test_66 (by decide) (fun c_66 => ?_) (fun c_66 => ?_)
            ·
              refine ca_iload_n h dX5_test_75 rfl ?_
              refine ca_istore_n h dX5_test_76 rfl ?_
              refine ca_iload h dX5_test_77 rfl ?_
              refine ca_if_eq (tgt := 87) h dX5_test_79 (by decide) (fun c_79 => ?_) (fun c_79 => ?_)
              ·
                refine ca_iload_n h dX5_test_87 rfl ?_
                refine ca_iload h dX5_test_88 rfl ?_
                refine ca_iand h dX5_test_90 ?_
                refine ca_istore_n h dX5_test_91 rfl ?_
                refine ca_iinc h dX5_test_92 rfl ik_1 rfl ?_
                refine ca_goto (tgt := 11) h dX5_test_95 (by decide) ?_
                refine ca_pick [5, 6, 2, 1, 0] rfl ?_
                exact ih_11 (n + 1) (by omega) _ (nI_1 n) (p.1, p.2.1 &&& ((e_fac (μ k) 5) (t_adv p.2.2)).1, ((e_fac (μ k) 5) (t_adv p.2.2)).2) (e_fac_tx _ _ _ (k_tx_adv g)) (by rw [hx, e_tL, if_neg (fun z => bI_n0.mpr z c_32), if_pos (by have c9 := c_44; rw [up_s] at c9; exact bI_n0.mp c9)]) _ rfl
              · exact absurd c_32 c_79
            · exact absurd c_32 c_66
          ·
            refine ca_goto (tgt := 98) h dX5_test_47 (by decide) ?_
            refine ca_iload_n h dX5_test_98 rfl ?_
            refine ca_iload_n h dX5_test_99 rfl ?_
            refine ca_ior h dX5_test_100 ?_
            refine ca_ireturn h hR rfl dX5_test_101 ?_
            have e1 : e_tst (e_fac (μ k) 5) (μ 15) = (p.1 ||| p.2.1, p.2.2) := by unfold e_tst; rw [hx, e_tL, if_neg (fun z => bI_n0.mpr z c_32), if_neg (fun z => by have c9 := c_44; rw [up_s] at c9; exact bI_n0.mpr z c9)]
            exact ⟨by rw [e1], rfl, by rw [e1]⟩
  refine ca_pick [3, 4, 2, 1, 0] rfl ?_
  exact loop_11 _ 0 (Nat.zero_add _) _ rfl (0, ((e_fac (μ k) 5) (μ 15)).1, ((e_fac (μ k) 5) (μ 15)).2) (e_fac_tx _ _ _ hq) rfl _ rfl
set_option maxHeartbeats 100000 in
theorem c_X5_factor_o0 {l : Launch} {E : ch_E} {S : ch_S} {μ : ch_M} {k : Nat} (hs : ch_Std E S) (hr : ch_Rd S 36 k) (hk : k < 15) (hq : k_tx (μ 15)) (hm : k_mc (μ k) ≤ 12) : ch_C E l yX5_factor cX5_factor 4 (some FieldType.int) 20 0 0 S μ [.ref (S.1 15 36 0), .int 0] (ch_F (some (.int ((e_fac (μ k) 6 (μ 15)).1))) S (up μ 15 (e_fac (μ k) 6 (μ 15)).2)) := by
  refine ch_enter rfl rfl ?_
  intro X hl0 h hG hR hnm
  have h : ch_H X E RX5 cX5_factor 4 := h
  have hk15 : k ≠ 15 := by omega
  show ch_W X E 4 S μ 0 0 0 [(0, .ref (S.1 15 36 0)), (1, .int 0)] []
  refine ca_aload_nr h dX5_factor_0 rfl ?_
  refine rd_t5 h hr dX5_factor_1 ?_
  refine ca_ldcs h (i := 59) (List.mem_of_getElem? (i := 10) rfl) dX5_factor_4 ?_
  refine ca_vi h hG ml_X5_21 (c_X10_is hs hq (by decide)) (ci := 10) rfl rfl rfl (hs.1 _ _ _ ⟨rfl, rfl⟩) rfl rfl rfl rfl ⟨Nat.le_refl _, Nat.le_refl _⟩ rfl dX5_factor_6 ?_
  refine ca_istore_n h dX5_factor_9 rfl ?_
  refine ca_iload_n h dX5_factor_10 rfl ?_
  refine ca_if_ne (tgt := 31) h dX5_factor_11 (by decide) (fun c_11 => ?_) (fun c_11 => ?_)
  ·
    refine ca_iload_n h dX5_factor_31 rfl ?_
    refine ca_bipush h dX5_factor_32 bk_6 ?_
    refine ca_icmp_lt (tgt := 47) h dX5_factor_34 (by decide) (fun c_34 => ?_) (fun c_34 => ?_)
    ·
      refine ca_aload_nr h dX5_factor_47 rfl ?_
      refine rd_t5 h hr dX5_factor_48 ?_
      refine ca_vv h hG ml_X5_33 (c_X10_advance hs hq.1) (ci := 10) rfl rfl rfl (hs.1 _ _ _ ⟨rfl, rfl⟩) rfl rfl rfl rfl ⟨Nat.le_refl _, Nat.le_refl _⟩ rfl dX5_factor_51 ?_
      refine ca_iload_n h dX5_factor_54 rfl ?_
      refine ca_if_eq (tgt := 73) h dX5_factor_55 (by decide) (fun c_55 => ?_) (fun c_55 => ?_)
      · exact absurd c_55 c_11
      ·
        refine ca_aload_nr h dX5_factor_58 rfl ?_
        refine ca_vi h hG ml_X5_67 (c_X5_everyMobile hs hr hk) (ci := 5) rfl rfl rfl hr.1 rfl rfl rfl rfl ⟨Nat.le_refl _, Nat.le_refl _⟩ rfl dX5_factor_59 ?_
        refine ca_top (show _ = e_all (μ k) by rw [up_n hk15]) ?_
        refine ca_aload_nr h dX5_factor_62 rfl ?_
        refine ca_iload_n h dX5_factor_63 rfl ?_
        refine ca_iconst h dX5_factor_64 ik_1 ?_
        refine ca_iadd h dX5_factor_65 ?_
        refine ca_top (show _ = 1 from by decide) ?_
        refine ca_vi h hG ml_X5_52 (c_X5_factor_o1 hs hr hk (by rw [up_s]; exact k_tx_adv hq) (by rw [up_n hk15]; exact hm)) (ci := 5) rfl rfl rfl hr.1 rfl rfl rfl rfl ⟨Nat.le_refl _, Nat.le_refl _⟩ rfl dX5_factor_66 ?_
        refine ca_top (show _ = (e_fac (μ k) 5 (t_adv (μ 15))).1 by rw [up_s, up_n hk15]) ?_
        refine ca_mem (μ'' := up μ 15 (e_fac (μ k) 5 (t_adv (μ 15))).2) (by rw [up_s, up_n hk15, up_up]) ?_
        refine ca_iconst h dX5_factor_69 ik_m1 ?_
        refine ca_ixor h dX5_factor_70 ?_
        refine ca_iand h dX5_factor_71 ?_
        refine ca_ireturn h hR rfl dX5_factor_72 ?_
        have e1 : e_fac (μ k) 6 (μ 15) = _ := e_fac_s (μ k) 5 (μ 15)
        rw [if_pos (bI_n0.mp c_11)] at e1
        exact ⟨by rw [e1], rfl, by rw [e1]⟩
    · exact absurd (by decide) c_34
  ·
    refine ca_aload_nr h dX5_factor_14 rfl ?_
    refine rd_t5 h hr dX5_factor_15 ?_
    refine ca_ldcs h (i := 61) (List.mem_of_getElem? (i := 11) rfl) dX5_factor_18 ?_
    refine ca_vi h hG ml_X5_21 (c_X10_is hs hq (by decide)) (ci := 10) rfl rfl rfl (hs.1 _ _ _ ⟨rfl, rfl⟩) rfl rfl rfl rfl ⟨Nat.le_refl _, Nat.le_refl _⟩ rfl dX5_factor_20 ?_
    refine ca_if_ne (tgt := 31) h dX5_factor_23 (by decide) (fun c_23 => ?_) (fun c_23 => ?_)
    ·
      refine ca_iload_n h dX5_factor_31 rfl ?_
      refine ca_bipush h dX5_factor_32 bk_6 ?_
      refine ca_icmp_lt (tgt := 47) h dX5_factor_34 (by decide) (fun c_34 => ?_) (fun c_34 => ?_)
      ·
        refine ca_aload_nr h dX5_factor_47 rfl ?_
        refine rd_t5 h hr dX5_factor_48 ?_
        refine ca_vv h hG ml_X5_33 (c_X10_advance hs hq.1) (ci := 10) rfl rfl rfl (hs.1 _ _ _ ⟨rfl, rfl⟩) rfl rfl rfl rfl ⟨Nat.le_refl _, Nat.le_refl _⟩ rfl dX5_factor_51 ?_
        refine ca_iload_n h dX5_factor_54 rfl ?_
        refine ca_if_eq (tgt := 73) h dX5_factor_55 (by decide) (fun c_55 => ?_) (fun c_55 => ?_)
        ·
          refine ca_aload_nr h dX5_factor_73 rfl ?_
          refine ca_iload_n h dX5_factor_74 rfl ?_
          refine ca_iconst h dX5_factor_75 ik_1 ?_
          refine ca_iadd h dX5_factor_76 ?_
          refine ca_top (show _ = 1 from by decide) ?_
          refine ca_vi h hG ml_X5_36 (c_X5_test_o1 hs hr hk (by rw [up_s]; exact k_tx_adv hq) (by rw [up_n hk15]; exact hm)) (ci := 5) rfl rfl rfl hr.1 rfl rfl rfl rfl ⟨Nat.le_refl _, Nat.le_refl _⟩ rfl dX5_factor_77 ?_
          refine ca_top (show _ = (e_tst (e_fac (μ k) 5) (t_adv (μ 15))).1 by rw [up_s, up_n hk15]) ?_
          refine ca_mem (μ'' := up μ 15 (e_tst (e_fac (μ k) 5) (t_adv (μ 15))).2) (by rw [up_s, up_n hk15, up_up]) ?_
          refine ca_istore_n h dX5_factor_80 rfl ?_
          refine ca_aload_nr h dX5_factor_81 rfl ?_
          refine rd_t5 h hr dX5_factor_82 ?_
          refine ca_ldcs h (i := 70) (List.mem_of_getElem? (i := 23) rfl) dX5_factor_85 ?_
          refine ca_vv h hG ml_X5_72 (c_X10_expect hs (by rw [up_s]; exact e_tst_tx (e_fac_tx (μ k) 5) (k_tx_adv hq)) (by decide)) (ci := 10) rfl rfl rfl (hs.1 _ _ _ ⟨rfl, rfl⟩) rfl rfl rfl rfl ⟨Nat.le_refl _, Nat.le_refl _⟩ rfl dX5_factor_87 ?_
          refine ca_mem (by rw [up_s, up_up]) ?_
          refine ca_iload_n h dX5_factor_90 rfl ?_
          refine ca_ireturn h hR rfl dX5_factor_91 ?_
          have e1 : e_fac (μ k) 6 (μ 15) = _ := e_fac_s (μ k) 5 (μ 15)
          rw [if_neg (fun z => bI_n0.mpr z c_11), if_pos (bI_n0.mp c_23)] at e1
          exact ⟨by rw [e1], rfl, by rw [e1]⟩
        · exact absurd c_11 c_55
      · exact absurd (by decide) c_34
    ·
      refine ca_aload_nr h dX5_factor_26 rfl ?_
      refine ca_vi h hG ml_X5_63 (c_X5_comparison hs hr hk hq hm) (ci := 5) rfl rfl rfl hr.1 rfl rfl rfl rfl ⟨Nat.le_refl _, Nat.le_refl _⟩ rfl dX5_factor_27 ?_
      refine ca_ireturn h hR rfl dX5_factor_30 ?_
      have e1 : e_fac (μ k) 6 (μ 15) = _ := e_fac_s (μ k) 5 (μ 15)
      rw [if_neg (fun z => bI_n0.mpr z c_11), if_neg (fun z => bI_n0.mpr z c_23)] at e1
      exact ⟨by rw [e1], rfl, by rw [e1]⟩
set_option maxHeartbeats 100000 in
theorem c_X5_test_o0 {l : Launch} {E : ch_E} {S : ch_S} {μ : ch_M} {k : Nat} (hs : ch_Std E S) (hr : ch_Rd S 36 k) (hk : k < 15) (hq : k_tx (μ 15)) (hm : k_mc (μ k) ≤ 12) : ch_C E l yX5_test cX5_test 7 (some FieldType.int) 21 0 0 S μ [.ref (S.1 15 36 0), .int 0] (ch_F (some (.int ((e_tst (e_fac (μ k) 6) (μ 15)).1))) S (up μ 15 (e_tst (e_fac (μ k) 6) (μ 15)).2)) := by
  refine ch_enter rfl rfl ?_
  intro X hl0 h hG hR hnm
  have h : ch_H X E RX5 cX5_test 7 := h
  have hk15 : k ≠ 15 := by omega
  show ch_W X E 7 S μ 0 0 0 [(0, .ref (S.1 15 36 0)), (1, .int 0)] []
  refine ca_iconst h dX5_test_0 ik_0 ?_
  refine ca_istore_n h dX5_test_1 rfl ?_
  refine ca_aload_nr h dX5_test_2 rfl ?_
  refine ca_iload_n h dX5_test_3 rfl ?_
  refine ca_vi h hG ml_X5_52 (c_X5_factor_o0 hs hr hk hq hm) (ci := 5) rfl rfl rfl hr.1 rfl rfl rfl rfl ⟨Nat.le_refl _, Nat.le_refl _⟩ rfl dX5_test_4 ?_
  refine ca_istore_n h dX5_test_7 rfl ?_
  refine ca_iconst h dX5_test_8 ik_0 ?_
  refine ca_istore h dX5_test_9 rfl ?_
  have loop_11 : ∀ (jj n : Nat), n + jj = 200 → ∀ (x4 : Int32) (e4 : x4 = nI n) (p : Int32 × Int32 × ch_N) (g : k_tx p.2.2) (hx : e_tR (e_fac (μ k) 6) (μ 15) = e_tL (e_fac (μ k) 6) jj p) (mm : ch_M) (em : mm = up μ 15 p.2.2), ch_W X E 7 S mm 0 0 11 [(0, .ref (S.1 15 36 0)), (1, .int 0), (2, .int p.1), (3, .int p.2.1), (4, .int x4)] [] := by
    intro jj
    induction jj with
    | zero =>
      intro n hn x4 e4 p g hx mm em
      have hn : n = 200 := by omega
      subst e4 em
      refine ca_iload h dX5_test_11 rfl ?_
      refine ca_sipush h dX5_test_13 sk_200 ?_
      refine ca_icmp_ge (tgt := 98) h dX5_test_16 (by decide) (fun c_16 => ?_) (fun c_16 => ?_)
      ·
        refine ca_iload_n h dX5_test_98 rfl ?_
        refine ca_iload_n h dX5_test_99 rfl ?_
        refine ca_ior h dX5_test_100 ?_
        refine ca_ireturn h hR rfl dX5_test_101 ?_
        have e1 : e_tst (e_fac (μ k) 6) (μ 15) = (p.1 ||| p.2.1, p.2.2) := by unfold e_tst; rw [hx]; rfl
        exact ⟨by rw [e1], rfl, by rw [e1]⟩
      · exact absurd c_16 (by rw [hn]; decide)
    | succ jj ih_11 =>
      intro n hn x4 e4 p g hx mm em
      have hn1 : n < 200 := by omega
      subst e4 em
      refine ca_iload h dX5_test_11 rfl ?_
      refine ca_sipush h dX5_test_13 sk_200 ?_
      refine ca_icmp_ge (tgt := 98) h dX5_test_16 (by decide) (fun c_16 => ?_) (fun c_16 => ?_)
      · exact absurd (nI_lt (b := 200) hn1 (by decide)) c_16
      ·
        refine ca_aload_nr h dX5_test_19 rfl ?_
        refine rd_t5 h hr dX5_test_20 ?_
        refine ca_ldcs h (i := 55) (List.mem_of_getElem? (i := 24) rfl) dX5_test_23 ?_
        refine ca_vi h hG ml_X5_21 (c_X10_is hs (by rw [up_s]; exact g) (by decide)) (ci := 10) rfl rfl rfl (hs.1 _ _ _ ⟨rfl, rfl⟩) rfl rfl rfl rfl ⟨Nat.le_refl _, Nat.le_refl _⟩ rfl dX5_test_25 ?_
        refine ca_top (show _ = bI (t_is p.2.2 23) by rw [up_s]) ?_
        refine ca_istore h dX5_test_28 rfl ?_
        refine ca_iload h dX5_test_30 rfl ?_
        refine ca_if_ne (tgt := 50) h dX5_test_32 (by decide) (fun c_32 => ?_) (fun c_32 => ?_)
        ·
          refine ca_aload_nr h dX5_test_50 rfl ?_
          refine rd_t5 h hr dX5_test_51 ?_
          refine ca_vv h hG ml_X5_33 (c_X10_advance hs (by rw [up_s]; exact g.1)) (ci := 10) rfl rfl rfl (hs.1 _ _ _ ⟨rfl, rfl⟩) rfl rfl rfl rfl ⟨Nat.le_refl _, Nat.le_refl _⟩ rfl dX5_test_54 ?_
          refine ca_mem (μ'' := up μ 15 (t_adv p.2.2)) (by rw [up_s, up_up]) ?_
          refine ca_aload_nr h dX5_test_57 rfl ?_
          refine ca_iload_n h dX5_test_58 rfl ?_
          refine ca_vi h hG ml_X5_52 (c_X5_factor_o0 hs hr hk (by rw [up_s]; exact k_tx_adv g) (by rw [up_n hk15]; exact hm)) (ci := 5) rfl rfl rfl hr.1 rfl rfl rfl rfl ⟨Nat.le_refl _, Nat.le_refl _⟩ rfl dX5_test_59 ?_
          refine ca_top (show _ = ((e_fac (μ k) 6) (t_adv p.2.2)).1 by rw [up_s, up_n hk15]) ?_
          refine ca_mem (μ'' := up μ 15 ((e_fac (μ k) 6) (t_adv p.2.2)).2) (by rw [up_s, up_n hk15, up_up]) ?_
          refine ca_istore h dX5_test_62 rfl ?_
          refine ca_iload h dX5_test_64 rfl ?_
          refine ca_if_eq (tgt := 75) h dX5_test_66 (by decide) (fun c_66 => ?_) (fun c_66 => ?_)
          · exact absurd c_66 c_32
          ·
            refine ca_iload_n h dX5_test_69 rfl ?_
            refine ca_iload_n h dX5_test_70 rfl ?_
            refine ca_ior h dX5_test_71 ?_
            refine ca_goto (tgt := 76) h dX5_test_72 (by decide) ?_
            refine ca_istore_n h dX5_test_76 rfl ?_
            refine ca_iload h dX5_test_77 rfl ?_
            refine ca_if_eq (tgt := 87) h dX5_test_79 (by decide) (fun c_79 => ?_) (fun c_79 => ?_)
            · exact absurd c_79 c_32
            ·
              refine ca_iload h dX5_test_82 rfl ?_
              refine ca_goto (tgt := 91) h dX5_test_84 (by decide) ?_
              refine ca_istore_n h dX5_test_91 rfl ?_
              refine ca_iinc h dX5_test_92 rfl ik_1 rfl ?_
              refine ca_goto (tgt := 11) h dX5_test_95 (by decide) ?_
              refine ca_pick [5, 6, 2, 1, 0] rfl ?_
              exact ih_11 (n + 1) (by omega) _ (nI_1 n) (p.1 ||| p.2.1, ((e_fac (μ k) 6) (t_adv p.2.2)).1, ((e_fac (μ k) 6) (t_adv p.2.2)).2) (e_fac_tx _ _ _ (k_tx_adv g)) (by rw [hx, e_tL, if_pos (bI_n0.mp c_32)]) _ rfl
        ·
          refine ca_aload_nr h dX5_test_35 rfl ?_
          refine rd_t5 h hr dX5_test_36 ?_
          refine ca_ldcs h (i := 57) (List.mem_of_getElem? (i := 25) rfl) dX5_test_39 ?_
          refine ca_vi h hG ml_X5_21 (c_X10_is hs (by rw [up_s]; exact g) (by decide)) (ci := 10) rfl rfl rfl (hs.1 _ _ _ ⟨rfl, rfl⟩) rfl rfl rfl rfl ⟨Nat.le_refl _, Nat.le_refl _⟩ rfl dX5_test_41 ?_
          refine ca_if_ne (tgt := 50) h dX5_test_44 (by decide) (fun c_44 => ?_) (fun c_44 => ?_)
          ·
            refine ca_aload_nr h dX5_test_50 rfl ?_
            refine rd_t5 h hr dX5_test_51 ?_
            refine ca_vv h hG ml_X5_33 (c_X10_advance hs (by rw [up_s]; exact g.1)) (ci := 10) rfl rfl rfl (hs.1 _ _ _ ⟨rfl, rfl⟩) rfl rfl rfl rfl ⟨Nat.le_refl _, Nat.le_refl _⟩ rfl dX5_test_54 ?_
            refine ca_mem (μ'' := up μ 15 (t_adv p.2.2)) (by rw [up_s, up_up]) ?_
            refine ca_aload_nr h dX5_test_57 rfl ?_
            refine ca_iload_n h dX5_test_58 rfl ?_
            refine ca_vi h hG ml_X5_52 (c_X5_factor_o0 hs hr hk (by rw [up_s]; exact k_tx_adv g) (by rw [up_n hk15]; exact hm)) (ci := 5) rfl rfl rfl hr.1 rfl rfl rfl rfl ⟨Nat.le_refl _, Nat.le_refl _⟩ rfl dX5_test_59 ?_
            refine ca_top (show _ = ((e_fac (μ k) 6) (t_adv p.2.2)).1 by rw [up_s, up_n hk15]) ?_
            refine ca_mem (μ'' := up μ 15 ((e_fac (μ k) 6) (t_adv p.2.2)).2) (by rw [up_s, up_n hk15, up_up]) ?_
            refine ca_istore h dX5_test_62 rfl ?_
            refine ca_iload h dX5_test_64 rfl ?_
            refine ca_if_eq (tgt := 75) h dX5_test_66 (by decide) (fun c_66 => ?_) (fun c_66 => ?_)
            ·
              refine ca_iload_n h dX5_test_75 rfl ?_
              refine ca_istore_n h dX5_test_76 rfl ?_
              refine ca_iload h dX5_test_77 rfl ?_
              refine ca_if_eq (tgt := 87) h dX5_test_79 (by decide) (fun c_79 => ?_) (fun c_79 => ?_)
              ·
                refine ca_iload_n h dX5_test_87 rfl ?_
                refine ca_iload h dX5_test_88 rfl ?_
                refine ca_iand h dX5_test_90 ?_
                refine ca_istore_n h dX5_test_91 rfl ?_
                refine ca_iinc h dX5_test_92 rfl ik_1 rfl ?_
                refine ca_goto (tgt := 11) h dX5_test_95 (by decide) ?_
                refine ca_pick [5, 6, 2, 1, 0] rfl ?_
                exact ih_11 (n + 1) (by omega) _ (nI_1 n) (p.1, p.2.1 &&& ((e_fac (μ k) 6) (t_adv p.2.2)).1, ((e_fac (μ k) 6) (t_adv p.2.2)).2) (e_fac_tx _ _ _ (k_tx_adv g)) (by rw [hx, e_tL, if_neg (fun z => bI_n0.mpr z c_32), if_pos (by have c9 := c_44; rw [up_s] at c9; exact bI_n0.mp c9)]) _ rfl
              · exact absurd c_32 c_79
            · exact absurd c_32 c_66
          ·
            refine ca_goto (tgt := 98) h dX5_test_47 (by decide) ?_
            refine ca_iload_n h dX5_test_98 rfl ?_
            refine ca_iload_n h dX5_test_99 rfl ?_
            refine ca_ior h dX5_test_100 ?_
            refine ca_ireturn h hR rfl dX5_test_101 ?_
            have e1 : e_tst (e_fac (μ k) 6) (μ 15) = (p.1 ||| p.2.1, p.2.2) := by unfold e_tst; rw [hx, e_tL, if_neg (fun z => bI_n0.mpr z c_32), if_neg (fun z => by have c9 := c_44; rw [up_s] at c9; exact bI_n0.mpr z c9)]
            exact ⟨by rw [e1], rfl, by rw [e1]⟩
  refine ca_pick [3, 4, 2, 1, 0] rfl ?_
  exact loop_11 _ 0 (Nat.zero_add _) _ rfl (0, ((e_fac (μ k) 6) (μ 15)).1, ((e_fac (μ k) 6) (μ 15)).2) (e_fac_tx _ _ _ hq) rfl _ rfl
set_option maxHeartbeats 100000 in
theorem c_X5_readQuery {l : Launch} {E : ch_E} {S : ch_S} {μ : ch_M} {k : Nat} (hs : ch_Std E S) (hr : ch_Rd S 36 k) (hk : k < 15) (hq : k_tx (μ 15)) (hm : k_mc (μ k) ≤ 12) : ch_C E l yX5_readQuery cX5_readQuery 3 (some FieldType.int) 22 0 0 S μ [.ref (S.1 15 36 0)] (ch_F (some (.int ((e_qry (μ k) (μ 15)).1))) S (up μ 15 (e_qry (μ k) (μ 15)).2)) := by
  refine ch_enter rfl rfl ?_
  intro X hl0 h hG hR hnm
  have h : ch_H X E RX5 cX5_readQuery 3 := h
  have hk15 : k ≠ 15 := by omega
  show ch_W X E 3 S μ 0 0 0 [(0, .ref (S.1 15 36 0))] []
  refine ca_aload_nr h dX5_readQuery_0 rfl ?_
  refine rd_t5 h hr dX5_readQuery_1 ?_
  refine ca_ldcs h (i := 19) (List.mem_of_getElem? (i := 8) rfl) dX5_readQuery_4 ?_
  refine ca_vi h hG ml_X5_21 (c_X10_is hs hq (by decide)) (ci := 10) rfl rfl rfl (hs.1 _ _ _ ⟨rfl, rfl⟩) rfl rfl rfl rfl ⟨Nat.le_refl _, Nat.le_refl _⟩ rfl dX5_readQuery_6 ?_
  refine ca_istore_n h dX5_readQuery_9 rfl ?_
  have K_34 : ∀ (_ : True), ch_W X E 3 S (up μ 15 (e_h1 (μ 15))) 0 0 34 [(0, .ref (S.1 15 36 0)), (1, .int (bI (t_is (μ 15) 8)))] [] := by
    intro _
    refine ca_aload_nr h dX5_readQuery_34 rfl ?_
    refine rd_t5 h hr dX5_readQuery_35 ?_
    refine ca_vv h hG ml_X5_33 (c_X10_advance hs (by rw [up_s]; exact (e_h1_tx hq).1)) (ci := 10) rfl rfl rfl (hs.1 _ _ _ ⟨rfl, rfl⟩) rfl rfl rfl rfl ⟨Nat.le_refl _, Nat.le_refl _⟩ rfl dX5_readQuery_38 ?_
    refine ca_mem (μ'' := up μ 15 (t_adv (e_h1 (μ 15)))) (by rw [up_s, up_up]) ?_
    refine ca_aload_nr h dX5_readQuery_41 rfl ?_
    refine ca_iconst h dX5_readQuery_42 ik_0 ?_
    refine ca_vi h hG ml_X5_36 (c_X5_test_o0 hs hr hk (by rw [up_s]; exact k_tx_adv (e_h1_tx hq)) (by rw [up_n hk15]; exact hm)) (ci := 5) rfl rfl rfl hr.1 rfl rfl rfl rfl ⟨Nat.le_refl _, Nat.le_refl _⟩ rfl dX5_readQuery_43 ?_
    refine ca_top (show _ = (e_h2 (μ k) (μ 15)).1 by rw [up_s, up_n hk15]; rfl) ?_
    refine ca_mem (μ'' := up μ 15 (e_h2 (μ k) (μ 15)).2) (by rw [up_s, up_n hk15, up_up]; rfl) ?_
    refine ca_istore_n h dX5_readQuery_46 rfl ?_
    refine ca_aload_nr h dX5_readQuery_47 rfl ?_
    refine rd_t5 h hr dX5_readQuery_48 ?_
    refine ca_vi h hG ml_X5_40 (c_X10_goesOn hs) (ci := 10) rfl rfl rfl (hs.1 _ _ _ ⟨rfl, rfl⟩) rfl rfl rfl rfl ⟨Nat.le_refl _, Nat.le_refl _⟩ rfl dX5_readQuery_51 ?_
    refine ca_if_eq (tgt := 65) h dX5_readQuery_54 (by decide) (fun c_54 => ?_) (fun c_54 => ?_)
    ·
      refine ca_mem (μ'' := up μ 15 (e_qry (μ k) (μ 15)).2) (by unfold e_qry; dsimp only; rw [if_neg (fun z => by have c9 := c_54; rw [up_s] at c9; exact bI_n0.mpr z c9)]) ?_
      refine ca_iload_n h dX5_readQuery_65 rfl ?_
      refine ca_if_eq (tgt := 76) h dX5_readQuery_66 (by decide) (fun c_66 => ?_) (fun c_66 => ?_)
      ·
        refine ca_aload_nr h dX5_readQuery_76 rfl ?_
        refine ca_iload_n h dX5_readQuery_77 rfl ?_
        refine ca_vi h hG ml_X5_49 (c_X5_firstOf hs hr hk (by rw [up_n hk15]; exact hm)) (ci := 5) rfl rfl rfl hr.1 rfl rfl rfl rfl ⟨Nat.le_refl _, Nat.le_refl _⟩ rfl dX5_readQuery_78 ?_
        refine ca_ireturn h hR rfl dX5_readQuery_81 ?_
        exact ⟨by unfold e_qry; dsimp only; rw [if_neg (fun z => bI_n0.mpr z c_66), up_n hk15], rfl, rfl⟩
      ·
        refine ca_iload_n h dX5_readQuery_69 rfl ?_
        refine ca_si h hG ms_X5_44 (c_J6_bitCount_0f7a4) rfl rfl rfl rfl ⟨Nat.le_refl _, Nat.le_refl _⟩ rfl dX5_readQuery_70 ?_
        refine ca_goto (tgt := 81) h dX5_readQuery_73 (by decide) ?_
        refine ca_ireturn h hR rfl dX5_readQuery_81 ?_
        exact ⟨by unfold e_qry; dsimp only; rw [if_pos (bI_n0.mp c_66)], rfl, rfl⟩
    ·
      refine ca_aload_nr h dX5_readQuery_57 rfl ?_
      refine rd_t5 h hr dX5_readQuery_58 ?_
      refine ca_iconst h dX5_readQuery_61 ik_1 ?_
      refine ca_vv h hG ml_X5_29 (c_X10_fail hs) (ci := 10) rfl rfl rfl (hs.1 _ _ _ ⟨rfl, rfl⟩) rfl rfl rfl rfl ⟨Nat.le_refl _, Nat.le_refl _⟩ rfl dX5_readQuery_62 ?_
      refine ca_mem (μ'' := up μ 15 (e_qry (μ k) (μ 15)).2) (by unfold e_qry; dsimp only; rw [if_pos (by have c9 := c_54; rw [up_s] at c9; exact bI_n0.mp c9), up_s, up_up]) ?_
      refine ca_iload_n h dX5_readQuery_65 rfl ?_
      refine ca_if_eq (tgt := 76) h dX5_readQuery_66 (by decide) (fun c_66 => ?_) (fun c_66 => ?_)
      ·
        refine ca_aload_nr h dX5_readQuery_76 rfl ?_
        refine ca_iload_n h dX5_readQuery_77 rfl ?_
        refine ca_vi h hG ml_X5_49 (c_X5_firstOf hs hr hk (by rw [up_n hk15]; exact hm)) (ci := 5) rfl rfl rfl hr.1 rfl rfl rfl rfl ⟨Nat.le_refl _, Nat.le_refl _⟩ rfl dX5_readQuery_78 ?_
        refine ca_ireturn h hR rfl dX5_readQuery_81 ?_
        exact ⟨by unfold e_qry; dsimp only; rw [if_neg (fun z => bI_n0.mpr z c_66), up_n hk15], rfl, rfl⟩
      ·
        refine ca_iload_n h dX5_readQuery_69 rfl ?_
        refine ca_si h hG ms_X5_44 (c_J6_bitCount_0f7a4) rfl rfl rfl rfl ⟨Nat.le_refl _, Nat.le_refl _⟩ rfl dX5_readQuery_70 ?_
        refine ca_goto (tgt := 81) h dX5_readQuery_73 (by decide) ?_
        refine ca_ireturn h hR rfl dX5_readQuery_81 ?_
        exact ⟨by unfold e_qry; dsimp only; rw [if_pos (bI_n0.mp c_66)], rfl, rfl⟩
  refine ca_iload_n h dX5_readQuery_10 rfl ?_
  refine ca_if_ne (tgt := 34) h dX5_readQuery_11 (by decide) (fun c_11 => ?_) (fun c_11 => ?_)
  ·
    refine ca_pick [1, 0] rfl ?_
    refine ca_mem (μ'' := up μ 15 (e_h1 (μ 15))) (by unfold e_h1; rw [if_pos (bI_n0.mp c_11), up_id]) ?_
    exact K_34 trivial
  ·
    refine ca_aload_nr h dX5_readQuery_14 rfl ?_
    refine rd_t5 h hr dX5_readQuery_15 ?_
    refine ca_ldcs h (i := 27) (List.mem_of_getElem? (i := 9) rfl) dX5_readQuery_18 ?_
    refine ca_vi h hG ml_X5_21 (c_X10_is hs hq (by decide)) (ci := 10) rfl rfl rfl (hs.1 _ _ _ ⟨rfl, rfl⟩) rfl rfl rfl rfl ⟨Nat.le_refl _, Nat.le_refl _⟩ rfl dX5_readQuery_20 ?_
    refine ca_if_ne (tgt := 34) h dX5_readQuery_23 (by decide) (fun c_23 => ?_) (fun c_23 => ?_)
    ·
      refine ca_pick [1, 0] rfl ?_
      refine ca_mem (μ'' := up μ 15 (e_h1 (μ 15))) (by unfold e_h1; rw [if_neg (fun z => bI_n0.mpr z c_11), if_pos (bI_n0.mp c_23), up_id]) ?_
      exact K_34 trivial
    ·
      refine ca_aload_nr h dX5_readQuery_26 rfl ?_
      refine rd_t5 h hr dX5_readQuery_27 ?_
      refine ca_iconst h dX5_readQuery_30 ik_1 ?_
      refine ca_vv h hG ml_X5_29 (c_X10_fail hs) (ci := 10) rfl rfl rfl (hs.1 _ _ _ ⟨rfl, rfl⟩) rfl rfl rfl rfl ⟨Nat.le_refl _, Nat.le_refl _⟩ rfl dX5_readQuery_31 ?_
      refine ca_pick [1, 0] rfl ?_
      refine ca_mem (μ'' := up μ 15 (e_h1 (μ 15))) (by unfold e_h1; rw [if_neg (fun z => bI_n0.mpr z c_11), if_neg (fun z => bI_n0.mpr z c_23)]) ?_
      exact K_34 trivial
