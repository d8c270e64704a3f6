/-! THE REFERENCE: codes and what they come to for a mobile -/
theorem tsw5 (x : Int32) : x = -24 ∨ x = -23 ∨ x = -22 ∨ x = -21 ∨ x = -20 ∨ ((x.toInt < -24 ∨ -20 < x.toInt) ∧ (¬ x = -24 ∧ ¬ x = -23 ∧ ¬ x = -22 ∧ ¬ x = -21 ∧ ¬ x = -20)) := by
  by_cases h : x.toInt < -24 ∨ -20 < x.toInt
  · refine Or.inr (Or.inr (Or.inr (Or.inr (Or.inr ⟨h, ?_, ?_, ?_, ?_, ?_⟩))))
    all_goals (rintro rfl; revert h; decide)
  · rcases (show x.toInt = -24 ∨ x.toInt = -23 ∨ x.toInt = -22 ∨ x.toInt = -21 ∨ x.toInt = -20 by omega) with e | e | e | e | e
    · exact Or.inl (Int32.toInt_inj.mp (by rw [e]; decide))
    · exact Or.inr (Or.inl (Int32.toInt_inj.mp (by rw [e]; decide)))
    · exact Or.inr (Or.inr (Or.inl (Int32.toInt_inj.mp (by rw [e]; decide))))
    · exact Or.inr (Or.inr (Or.inr (Or.inl (Int32.toInt_inj.mp (by rw [e]; decide)))))
    · exact Or.inr (Or.inr (Or.inr (Or.inr (Or.inl (Int32.toInt_inj.mp (by rw [e]; decide))))))
theorem ca_tab5 {X : ch_X} {E : ch_E} {own : String} {cc : ByteArray} {nL : Nat} {S : ch_S} {μ : ch_M} {kc ks pc : Nat} {L : List (Nat × Value)} {st : List Value} (h : ch_H X E own cc nL) {dflt o0 o1 o2 o3 o4 : Int} {len t0 t1 t2 t3 t4 td : Nat} {x : Int32} (hd : decode cc pc = .ok (.tableswitch dflt (-24) (-20) #[o0, o1, o2, o3, o4], len))
    (e0 : (pc : Int) + o0 = (t0 : Int)) (e1 : (pc : Int) + o1 = (t1 : Int)) (e2 : (pc : Int) + o2 = (t2 : Int)) (e3 : (pc : Int) + o3 = (t3 : Int)) (e4 : (pc : Int) + o4 = (t4 : Int)) (ed : (pc : Int) + dflt = (td : Int))
    (k0 : x = -24 → ch_W X E nL S μ kc ks t0 L st) (k1 : x = -23 → ch_W X E nL S μ kc ks t1 L st) (k2 : x = -22 → ch_W X E nL S μ kc ks t2 L st) (k3 : x = -21 → ch_W X E nL S μ kc ks t3 L st) (k4 : x = -20 → ch_W X E nL S μ kc ks t4 L st)
    (kd : ¬ x = -24 ∧ ¬ x = -23 ∧ ¬ x = -22 ∧ ¬ x = -21 ∧ ¬ x = -20 → ch_W X E nL S μ kc ks td L st) : ch_W X E nL S μ kc ks pc L (.int x :: st) := by
  rcases tsw5 x with e | e | e | e | e | ⟨e, f⟩
  · subst e; exact ca_tableIn h hd (by decide) (by decide) (off := o0) rfl e0 (k0 rfl)
  · subst e; exact ca_tableIn h hd (by decide) (by decide) (off := o1) rfl e1 (k1 rfl)
  · subst e; exact ca_tableIn h hd (by decide) (by decide) (off := o2) rfl e2 (k2 rfl)
  · subst e; exact ca_tableIn h hd (by decide) (by decide) (off := o3) rfl e3 (k3 rfl)
  · subst e; exact ca_tableIn h hd (by decide) (by decide) (off := o4) rfl e4 (k4 rfl)
  · exact ca_tableOut h hd e ed (kd f)
def r_op (c x y : Int32) : Int32 := if c = -20 then (if x < y then 1 else 0) else if c = -21 then (if x = y then 1 else 0) else if c = -22 then (if y < x then 1 else 0) else if c = -24 then x &&& y else x ||| y
def r_ev1 (n : ch_N) (m : Nat) (c : Int32) (st : List Int32) : Option (List Int32) :=
  if c = -23 then (match st with | x :: t => some ((1 - x) :: t) | [] => none)
  else if -20 < c then some (e_vf n c m :: st)
  else (match st with | y :: x :: t => some (r_op c x y :: t) | _ => none)
def r_evs (n : ch_N) (m : Nat) : List Int32 → List Int32 → Option (List Int32)
  | [], st => some st
  | c :: C, st => (r_ev1 n m c st).bind (r_evs n m C)
theorem r_evs_app (n : ch_N) (m : Nat) : ∀ (C D : List Int32) (st : List Int32), r_evs n m (C ++ D) st = (r_evs n m C st).bind (r_evs n m D)
  | [], D, st => rfl
  | c :: C, D, st => by
    show (r_ev1 n m c st).bind (r_evs n m (C ++ D)) = ((r_ev1 n m c st).bind (r_evs n m C)).bind (r_evs n m D)
    cases r_ev1 n m c st with
    | none => rfl
    | some s => exact r_evs_app n m C D s
def r_stk (g : Nat → Int32) : List Int32 → Prop
  | [] => True
  | x :: t => g t.length = x ∧ r_stk g t
theorem r_stk_up {g : Nat → Int32} {j : Nat} {v : Int32} : ∀ st : List Int32, st.length ≤ j → r_stk g st → r_stk (up g j v) st
  | [], _, _ => trivial
  | x :: t, h, hs => ⟨by rw [up_n (by have : (x :: t).length = t.length + 1 := rfl; omega)]; exact hs.1, r_stk_up t (by have : (x :: t).length = t.length + 1 := rfl; omega) hs.2⟩
set_option maxHeartbeats 100000 in
theorem c_X12_property {l : Launch} {E : ch_E} {S : ch_S} {μ : ch_M} (hs : ch_Std E S) {n : ch_N} (hN : r_N n (μ 16 23 0)) {m : Nat} (hm : m < k_mc n) {v : Int32} (hv : v < 0) : ch_C E l yX12_property cX12_property 3 (some FieldType.int) 3 0 0 S μ [.ref (S.1 16 22 0), .int (nI m), .int (-1 - v)] (ch_F (some (.int (e_vf n v m))) S (μ)) := by
  refine ch_enter rfl rfl ?_
  intro X hl0 h hG hR hnm
  have h : ch_H X E RX12 cX12_property 3 := h
  have hm12 := r_m12 hN hm
  show ch_W X E 3 S μ 0 0 0 [(0, .ref (S.1 16 22 0)), (1, .int (nI m)), (2, .int (-1 - v))] []
  refine ca_iload_n h dX12_property_0 rfl ?_
  refine ca_tab7 h dX12_property_1 (t0 := 44) (t1 := 46) (t2 := 53) (t3 := 60) (t4 := 67) (t5 := 87) (t6 := 107) (td := 131) (by decide) (by decide) (by decide) (by decide) (by decide) (by decide) (by decide) (by decide) (fun c_1 => ?_) (fun c_1 => ?_) (fun c_1 => ?_) (fun c_1 => ?_) (fun c_1 => ?_) (fun c_1 => ?_) (fun c_1 => ?_) (fun c_1 => ?_)
  ·
    refine ca_iload_n h dX12_property_44 rfl ?_
    refine ca_ireturn h hR rfl dX12_property_45 ?_
    have ev : ¬ ¬ v < 0 := fun z => z hv
    exact ⟨by unfold e_vf; rw [if_neg ev, if_pos c_1], rfl, rfl⟩
  ·
    refine ca_aload_nr h dX12_property_46 rfl ?_
    refine ca_iload_n h dX12_property_47 rfl ?_
    refine ca_iconst h dX12_property_48 ik_0 ?_
    refine ca_vi h hG ml_X12_77 (c_X12_of hs hm12 (by decide)) (ci := 12) rfl rfl rfl (hs.1 _ _ _ ⟨rfl, rfl⟩) rfl rfl rfl rfl ⟨Nat.le_refl _, Nat.le_refl _⟩ rfl dX12_property_49 ?_
    refine ca_ireturn h hR rfl dX12_property_52 ?_
    have ev : ¬ ¬ v < 0 := fun z => z hv
    exact ⟨by unfold e_vf; rw [if_neg ev, if_neg (by rw [c_1]; decide), if_pos c_1, r_f hN hm (f := 0) (by decide)], rfl, rfl⟩
  ·
    refine ca_aload_nr h dX12_property_53 rfl ?_
    refine ca_iload_n h dX12_property_54 rfl ?_
    refine ca_iconst h dX12_property_55 ik_1 ?_
    refine ca_vi h hG ml_X12_77 (c_X12_of hs hm12 (by decide)) (ci := 12) rfl rfl rfl (hs.1 _ _ _ ⟨rfl, rfl⟩) rfl rfl rfl rfl ⟨Nat.le_refl _, Nat.le_refl _⟩ rfl dX12_property_56 ?_
    refine ca_ireturn h hR rfl dX12_property_59 ?_
    have ev : ¬ ¬ v < 0 := fun z => z hv
    exact ⟨by unfold e_vf; rw [if_neg ev, if_neg (by rw [c_1]; decide), if_neg (by rw [c_1]; decide), if_pos c_1, r_f hN hm (f := 1) (by decide)], rfl, rfl⟩
  ·
    refine ca_aload_nr h dX12_property_60 rfl ?_
    refine ca_iload_n h dX12_property_61 rfl ?_
    refine ca_iconst h dX12_property_62 ik_4 ?_
    refine ca_vi h hG ml_X12_77 (c_X12_of hs hm12 (by decide)) (ci := 12) rfl rfl rfl (hs.1 _ _ _ ⟨rfl, rfl⟩) rfl rfl rfl rfl ⟨Nat.le_refl _, Nat.le_refl _⟩ rfl dX12_property_63 ?_
    refine ca_ireturn h hR rfl dX12_property_66 ?_
    have ev : ¬ ¬ v < 0 := fun z => z hv
    exact ⟨by unfold e_vf; rw [if_neg ev, if_neg (by rw [c_1]; decide), if_neg (by rw [c_1]; decide), if_neg (by rw [c_1]; decide), if_pos c_1, r_f hN hm (f := 4) (by decide)], rfl, rfl⟩
  ·
    refine ca_aload_nr h dX12_property_67 rfl ?_
    refine ca_iload_n h dX12_property_68 rfl ?_
    refine ca_vi h hG ml_X12_135 (c_X12_talks hs hm12) (ci := 12) rfl rfl rfl (hs.1 _ _ _ ⟨rfl, rfl⟩) rfl rfl rfl rfl ⟨Nat.le_refl _, Nat.le_refl _⟩ rfl dX12_property_69 ?_
    refine ca_if_eq (tgt := 84) h dX12_property_72 (by decide) (fun c_72 => ?_) (fun c_72 => ?_)
    ·
      refine ca_bipush h dX12_property_84 bk_9 ?_
      refine ca_ireturn h hR rfl dX12_property_86 ?_
      have ev : ¬ ¬ v < 0 := fun z => z hv
      have htk := of_decide_eq_false (bI_0.mp c_72)
      rw [r_f hN hm (f := 4) (by decide)] at htk
      have hp := (hN.2.2.2.2.1 m hm).2.2.2.2.2.2.1 htk
      exact ⟨by unfold e_vf; rw [if_neg ev, if_neg (by rw [c_1]; decide), if_neg (by rw [c_1]; decide), if_neg (by rw [c_1]; decide), if_neg (by rw [c_1]; decide), if_pos c_1, if_pos hp.1], rfl, rfl⟩
    ·
      refine ca_aload_nr h dX12_property_75 rfl ?_
      refine ca_iload_n h dX12_property_76 rfl ?_
      refine ca_iconst h dX12_property_77 ik_5 ?_
      refine ca_vi h hG ml_X12_77 (c_X12_of hs hm12 (by decide)) (ci := 12) rfl rfl rfl (hs.1 _ _ _ ⟨rfl, rfl⟩) rfl rfl rfl rfl ⟨Nat.le_refl _, Nat.le_refl _⟩ rfl dX12_property_78 ?_
      refine ca_goto (tgt := 86) h dX12_property_81 (by decide) ?_
      refine ca_ireturn h hR rfl dX12_property_86 ?_
      have ev : ¬ ¬ v < 0 := fun z => z hv
      have htk := of_decide_eq_true (bI_n0.mp c_72)
      rw [r_f hN hm (f := 4) (by decide)] at htk
      obtain ⟨s, hs9, e5⟩ := r_sv hN hm htk
      exact ⟨by unfold e_vf; rw [if_neg ev, if_neg (by rw [c_1]; decide), if_neg (by rw [c_1]; decide), if_neg (by rw [c_1]; decide), if_neg (by rw [c_1]; decide), if_pos c_1, r_f hN hm (f := 5) (by decide), if_neg (by rw [e5]; exact nI_nm1 (by have := r_c8 hN hs9; omega))], rfl, rfl⟩
  ·
    refine ca_aload_nr h dX12_property_87 rfl ?_
    refine ca_iload_n h dX12_property_88 rfl ?_
    refine ca_vi h hG ml_X12_135 (c_X12_talks hs hm12) (ci := 12) rfl rfl rfl (hs.1 _ _ _ ⟨rfl, rfl⟩) rfl rfl rfl rfl ⟨Nat.le_refl _, Nat.le_refl _⟩ rfl dX12_property_89 ?_
    refine ca_if_eq (tgt := 105) h dX12_property_92 (by decide) (fun c_92 => ?_) (fun c_92 => ?_)
    ·
      refine ca_iconst h dX12_property_105 ik_0 ?_
      refine ca_ireturn h hR rfl dX12_property_106 ?_
      have ev : ¬ ¬ v < 0 := fun z => z hv
      have htk := of_decide_eq_false (bI_0.mp c_92)
      rw [r_f hN hm (f := 4) (by decide)] at htk
      exact ⟨by unfold e_vf; rw [if_neg ev, if_neg (by rw [c_1]; decide), if_neg (by rw [c_1]; decide), if_neg (by rw [c_1]; decide), if_neg (by rw [c_1]; decide), if_neg (by rw [c_1]; decide), if_pos c_1, if_neg htk], rfl, rfl⟩
    ·
      refine ca_aload_nr h dX12_property_95 rfl ?_
      refine ca_iload_n h dX12_property_96 rfl ?_
      refine ca_bipush h dX12_property_97 bk_6 ?_
      refine ca_vi h hG ml_X12_77 (c_X12_of hs hm12 (by decide)) (ci := 12) rfl rfl rfl (hs.1 _ _ _ ⟨rfl, rfl⟩) rfl rfl rfl rfl ⟨Nat.le_refl _, Nat.le_refl _⟩ rfl dX12_property_99 ?_
      refine ca_goto (tgt := 106) h dX12_property_102 (by decide) ?_
      refine ca_ireturn h hR rfl dX12_property_106 ?_
      have ev : ¬ ¬ v < 0 := fun z => z hv
      have htk := of_decide_eq_true (bI_n0.mp c_92)
      rw [r_f hN hm (f := 4) (by decide)] at htk
      exact ⟨by unfold e_vf; rw [if_neg ev, if_neg (by rw [c_1]; decide), if_neg (by rw [c_1]; decide), if_neg (by rw [c_1]; decide), if_neg (by rw [c_1]; decide), if_neg (by rw [c_1]; decide), if_pos c_1, if_pos htk, r_f hN hm (f := 6) (by decide)], rfl, rfl⟩
  ·
    refine ca_aload_nr h dX12_property_107 rfl ?_
    refine ca_iload_n h dX12_property_108 rfl ?_
    refine ca_vi h hG ml_X12_135 (c_X12_talks hs hm12) (ci := 12) rfl rfl rfl (hs.1 _ _ _ ⟨rfl, rfl⟩) rfl rfl rfl rfl ⟨Nat.le_refl _, Nat.le_refl _⟩ rfl dX12_property_109 ?_
    refine ca_if_eq (tgt := 129) h dX12_property_112 (by decide) (fun c_112 => ?_) (fun c_112 => ?_)
    ·
      refine ca_iconst h dX12_property_129 ik_0 ?_
      refine ca_ireturn h hR rfl dX12_property_130 ?_
      have ev : ¬ ¬ v < 0 := fun z => z hv
      have htk := of_decide_eq_false (bI_0.mp c_112)
      rw [r_f hN hm (f := 4) (by decide)] at htk
      have hp := (hN.2.2.2.2.1 m hm).2.2.2.2.2.2.1 htk
      exact ⟨by unfold e_vf; rw [if_neg ev, if_neg (by rw [c_1]; decide), if_neg (by rw [c_1]; decide), if_neg (by rw [c_1]; decide), if_neg (by rw [c_1]; decide), if_neg (by rw [c_1]; decide), if_neg (by rw [c_1]; decide), if_pos c_1, hp.1]; rfl, rfl, rfl⟩
    ·
      refine ca_aload_nr h dX12_property_115 rfl ?_
      refine ca_iload_n h dX12_property_116 rfl ?_
      refine ca_aload_nr h dX12_property_117 rfl ?_
      refine ca_iload_n h dX12_property_118 rfl ?_
      refine ca_iconst h dX12_property_119 ik_5 ?_
      refine ca_vi h hG ml_X12_77 (c_X12_of hs hm12 (by decide)) (ci := 12) rfl rfl rfl (hs.1 _ _ _ ⟨rfl, rfl⟩) rfl rfl rfl rfl ⟨Nat.le_refl _, Nat.le_refl _⟩ rfl dX12_property_120 ?_
      have htk := of_decide_eq_true (bI_n0.mp c_112)
      rw [r_f hN hm (f := 4) (by decide)] at htk
      obtain ⟨s, hs9, e5⟩ := r_sv hN hm htk
      rw [r_f hN hm (f := 5) (by decide), e5]
      refine ca_vi h hG ml_X12_154 (c_X12_reportsOf hs hm12 (r_c8 hN hs9)) (ci := 12) rfl rfl rfl (hs.1 _ _ _ ⟨rfl, rfl⟩) rfl rfl rfl rfl ⟨Nat.le_refl _, Nat.le_refl _⟩ rfl dX12_property_123 ?_
      refine ca_goto (tgt := 130) h dX12_property_126 (by decide) ?_
      refine ca_ireturn h hR rfl dX12_property_130 ?_
      have ev : ¬ ¬ v < 0 := fun z => z hv
      exact ⟨by unfold e_vf; rw [if_neg ev, if_neg (by rw [c_1]; decide), if_neg (by rw [c_1]; decide), if_neg (by rw [c_1]; decide), if_neg (by rw [c_1]; decide), if_neg (by rw [c_1]; decide), if_neg (by rw [c_1]; decide), if_pos c_1, e5, k_rep_c (r_c8 hN hs9), r_ct hN hm htk (r_c8 hN hs9)], rfl, rfl⟩
  ·
    refine ca_aload_nr h dX12_property_131 rfl ?_
    refine ca_iload_n h dX12_property_132 rfl ?_
    refine ca_vi h hG ml_X12_226 (c_X12_hasRequest hs hm12) (ci := 12) rfl rfl rfl (hs.1 _ _ _ ⟨rfl, rfl⟩) rfl rfl rfl rfl ⟨Nat.le_refl _, Nat.le_refl _⟩ rfl dX12_property_133 ?_
    refine ca_if_eq (tgt := 143) h dX12_property_136 (by decide) (fun c_136 => ?_) (fun c_136 => ?_)
    ·
      refine ca_iconst h dX12_property_143 ik_0 ?_
      refine ca_ireturn h hR rfl dX12_property_144 ?_
      have ev : ¬ ¬ v < 0 := fun z => z hv
      have hr := of_decide_eq_false (bI_0.mp c_136)
      rw [r_8 hN hm] at hr
      exact ⟨by unfold e_vf; rw [if_neg ev, if_neg c_1.1, if_neg c_1.2.1, if_neg c_1.2.2.1, if_neg c_1.2.2.2.1, if_neg c_1.2.2.2.2.1, if_neg c_1.2.2.2.2.2.1, if_neg c_1.2.2.2.2.2.2, if_pos (Classical.not_not.mp hr)], rfl, rfl⟩
    ·
      refine ca_iconst h dX12_property_139 ik_1 ?_
      refine ca_goto (tgt := 144) h dX12_property_140 (by decide) ?_
      refine ca_ireturn h hR rfl dX12_property_144 ?_
      have ev : ¬ ¬ v < 0 := fun z => z hv
      have hr := of_decide_eq_true (bI_n0.mp c_136)
      rw [r_8 hN hm] at hr
      exact ⟨by unfold e_vf; rw [if_neg ev, if_neg c_1.1, if_neg c_1.2.1, if_neg c_1.2.2.1, if_neg c_1.2.2.2.1, if_neg c_1.2.2.2.2.1, if_neg c_1.2.2.2.2.2.1, if_neg c_1.2.2.2.2.2.2, if_neg hr], rfl, rfl⟩
set_option maxHeartbeats 100000 in
theorem c_X12_operate {l : Launch} {E : ch_E} {S : ch_S} {μ : ch_M} {c x y : Int32} : ch_C E l yX12_operate cX12_operate 3 (some FieldType.int) 1 0 0 S μ [.int c, .int x, .int y] (ch_F (some (.int (r_op c x y))) S (μ)) := by
  refine ch_enter rfl rfl ?_
  intro X hl0 h hG hR hnm
  have h : ch_H X E RX12 cX12_operate 3 := h
  show ch_W X E 3 S μ 0 0 0 [(0, .int c), (1, .int x), (2, .int y)] []
  refine ca_iload_n h dX12_operate_0 rfl ?_
  refine ca_tab5 h dX12_operate_1 (t0 := 69) (t1 := 73) (t2 := 58) (t3 := 47) (t4 := 36) (td := 73) (by decide) (by decide) (by decide) (by decide) (by decide) (by decide) (fun c_1 => ?_) (fun c_1 => ?_) (fun c_1 => ?_) (fun c_1 => ?_) (fun c_1 => ?_) (fun c_1 => ?_)
  ·
    refine ca_iload_n h dX12_operate_69 rfl ?_
    refine ca_iload_n h dX12_operate_70 rfl ?_
    refine ca_iand h dX12_operate_71 ?_
    refine ca_ireturn h hR rfl dX12_operate_72 ?_
    exact ⟨by unfold r_op; rw [if_neg (by rw [c_1]; decide), if_neg (by rw [c_1]; decide), if_neg (by rw [c_1]; decide), if_pos c_1], rfl, rfl⟩
  ·
    refine ca_iload_n h dX12_operate_73 rfl ?_
    refine ca_iload_n h dX12_operate_74 rfl ?_
    refine ca_ior h dX12_operate_75 ?_
    refine ca_ireturn h hR rfl dX12_operate_76 ?_
    exact ⟨by unfold r_op; first | rw [if_neg c_1.2.2.2.2, if_neg c_1.2.2.2.1, if_neg c_1.2.2.1, if_neg c_1.1] | rw [if_neg (by rw [c_1]; decide), if_neg (by rw [c_1]; decide), if_neg (by rw [c_1]; decide), if_neg (by rw [c_1]; decide)], rfl, rfl⟩
  ·
    refine ca_iload_n h dX12_operate_58 rfl ?_
    refine ca_iload_n h dX12_operate_59 rfl ?_
    refine ca_icmp_le (tgt := 67) h dX12_operate_60 (by decide) (fun c_60 => ?_) (fun c_60 => ?_)
    ·
      refine ca_iconst h dX12_operate_67 ik_0 ?_
      refine ca_ireturn h hR rfl dX12_operate_68 ?_
      exact ⟨by unfold r_op; rw [if_neg (by rw [c_1]; decide), if_neg (by rw [c_1]; decide), if_pos c_1, if_neg c_60], rfl, rfl⟩
    ·
      refine ca_iconst h dX12_operate_63 ik_1 ?_
      refine ca_goto (tgt := 68) h dX12_operate_64 (by decide) ?_
      refine ca_ireturn h hR rfl dX12_operate_68 ?_
      exact ⟨by unfold r_op; rw [if_neg (by rw [c_1]; decide), if_neg (by rw [c_1]; decide), if_pos c_1, if_pos c_60], rfl, rfl⟩
  ·
    refine ca_iload_n h dX12_operate_47 rfl ?_
    refine ca_iload_n h dX12_operate_48 rfl ?_
    refine ca_icmp_ne (tgt := 56) h dX12_operate_49 (by decide) (fun c_49 => ?_) (fun c_49 => ?_)
    ·
      refine ca_iconst h dX12_operate_56 ik_0 ?_
      refine ca_ireturn h hR rfl dX12_operate_57 ?_
      exact ⟨by unfold r_op; rw [if_neg (by rw [c_1]; decide), if_pos c_1, if_neg c_49], rfl, rfl⟩
    ·
      refine ca_iconst h dX12_operate_52 ik_1 ?_
      refine ca_goto (tgt := 57) h dX12_operate_53 (by decide) ?_
      refine ca_ireturn h hR rfl dX12_operate_57 ?_
      exact ⟨by unfold r_op; rw [if_neg (by rw [c_1]; decide), if_pos c_1, if_pos c_49], rfl, rfl⟩
  ·
    refine ca_iload_n h dX12_operate_36 rfl ?_
    refine ca_iload_n h dX12_operate_37 rfl ?_
    refine ca_icmp_ge (tgt := 45) h dX12_operate_38 (by decide) (fun c_38 => ?_) (fun c_38 => ?_)
    ·
      refine ca_iconst h dX12_operate_45 ik_0 ?_
      refine ca_ireturn h hR rfl dX12_operate_46 ?_
      exact ⟨by unfold r_op; rw [if_pos c_1, if_neg c_38], rfl, rfl⟩
    ·
      refine ca_iconst h dX12_operate_41 ik_1 ?_
      refine ca_goto (tgt := 46) h dX12_operate_42 (by decide) ?_
      refine ca_ireturn h hR rfl dX12_operate_46 ?_
      exact ⟨by unfold r_op; rw [if_pos c_1, if_pos c_38], rfl, rfl⟩
  ·
    refine ca_iload_n h dX12_operate_73 rfl ?_
    refine ca_iload_n h dX12_operate_74 rfl ?_
    refine ca_ior h dX12_operate_75 ?_
    refine ca_ireturn h hR rfl dX12_operate_76 ?_
    exact ⟨by unfold r_op; first | rw [if_neg c_1.2.2.2.2, if_neg c_1.2.2.2.1, if_neg c_1.2.2.1, if_neg c_1.1] | rw [if_neg (by rw [c_1]; decide), if_neg (by rw [c_1]; decide), if_neg (by rw [c_1]; decide), if_neg (by rw [c_1]; decide)], rfl, rfl⟩
set_option maxHeartbeats 100000 in
theorem c_X12_holds {l : Launch} {E : ch_E} {S : ch_S} {μ : ch_M} (hs : ch_Std E S) {n : ch_N} (hN : r_N n (μ 16 23 0)) {m : Nat} (hm : m < k_mc n) {C : List Int32} {v : Int32} (hC : C.length ≤ 200) (hcc : μ 16 22 0 24 = nI C.length) (hcd : ∀ (k : Nat) (h : k < C.length), μ 16 32 0 k = C[k]) (hrun : r_evs n m C [] = some [v]) : ch_C E l yX12_holds cX12_holds 5 (some FieldType.boolean) 4 0 0 S μ [.ref (S.1 16 22 0), .int (nI m)] (ch_FX (some (.int (bI (decide (v = 1))))) S (fun μ' => ∃ g, μ' = up μ 16 (na (μ 16) 33 0 g))) := by
  refine ch_enter rfl rfl ?_
  intro X hl0 h hG hR hnm
  have h : ch_H X E RX12 cX12_holds 5 := h
  have hm12 := r_m12 hN hm
  show ch_W X E 5 S μ 0 0 0 [(0, .ref (S.1 16 22 0)), (1, .int (nI m))] []
  refine ca_iconst h dX12_holds_0 ik_0 ?_
  refine ca_istore_n h dX12_holds_1 rfl ?_
  refine ca_iconst h dX12_holds_2 ik_0 ?_
  refine ca_istore_n h dX12_holds_3 rfl ?_
  have loop_4 : ∀ (jj k : Nat), k + jj = C.length → ∀ (st : List Int32) (x2 : Int32) (e2 : x2 = nI st.length) (x3 : Int32) (e3 : x3 = nI k) (g : Nat → Int32) (hst : r_stk g st) (hln : st.length ≤ k) (hev : r_evs n m (C.drop k) st = some [v]) (mm : ch_M) (em : mm = up μ 16 (na (μ 16) 33 0 g)), ch_W X E 5 S mm 0 0 4 [(0, .ref (S.1 16 22 0)), (1, .int (nI m)), (2, .int x2), (3, .int x3)] [] := by
    intro jj
    induction jj with
    | zero =>
      intro k hn st x2 e2 x3 e3 g hst hln hev mm em
      have hn : k = C.length := by omega
      subst e2 e3 em
      refine ca_iload_n h dX12_holds_4 rfl ?_
      refine ca_aload_nr h dX12_holds_5 rfl ?_
      refine gi_X12_376 h (hs.1 _ _ _ ⟨rfl, rfl⟩) dX12_holds_6 ?_
      refine ca_top (show _ = nI C.length by rw [up_s, na_k (by decide)]; exact hcc) ?_
      refine ca_icmp_ge (tgt := 122) h dX12_holds_9 (by decide) (fun c_9 => ?_) (fun c_9 => ?_)
      ·
        refine ca_aload_nr h dX12_holds_122 rfl ?_
        refine gs_X12_63 h hs ⟨rfl, rfl⟩ dX12_holds_123 ?_
        refine ca_iconst h dX12_holds_126 ik_0 ?_
        refine ca_iald h rfl (hs.1 _ _ _ ⟨rfl, rfl⟩) (vp_in_nI (n := 0) (N := 200) (by decide) (by decide)) dX12_holds_127 ?_
        refine ca_iconst h dX12_holds_128 ik_1 ?_
        refine ca_icmp_ne (tgt := 136) h dX12_holds_129 (by decide) (fun c_129 => ?_) (fun c_129 => ?_)
        ·
          refine ca_iconst h dX12_holds_136 ik_0 ?_
          refine ca_ireturn h hR rfl dX12_holds_137 ?_
          have hev9 : some st = some [v] := by rw [hn, List.drop_length] at hev; exact hev
          have hs9 : st = [v] := Option.some.inj hev9
          subst hs9
          have hg0 : g 0 = v := hst.1
          have c9 := c_129
          rw [up_s, na_fn, show Int32.toNatClampNeg 0 = 0 from rfl, hg0] at c9
          exact ⟨by rw [decide_eq_false c9]; rfl, rfl, g, rfl⟩
        ·
          refine ca_iconst h dX12_holds_132 ik_1 ?_
          refine ca_goto (tgt := 137) h dX12_holds_133 (by decide) ?_
          refine ca_ireturn h hR rfl dX12_holds_137 ?_
          have hev9 : some st = some [v] := by rw [hn, List.drop_length] at hev; exact hev
          have hs9 : st = [v] := Option.some.inj hev9
          subst hs9
          have hg0 : g 0 = v := hst.1
          have c9 := c_129
          rw [up_s, na_fn, show Int32.toNatClampNeg 0 = 0 from rfl, hg0] at c9
          exact ⟨by rw [decide_eq_true c9]; rfl, rfl, g, rfl⟩
      · exact absurd c_9 (nI_nlt (by omega) (by omega))
    | succ jj ih_4 =>
      intro k hn st x2 e2 x3 e3 g hst hln hev mm em
      have hn1 : k < C.length := by omega
      subst e2 e3 em
      have hdr : C.drop k = C[k] :: C.drop (k + 1) := List.drop_eq_getElem_cons (by omega)
      rw [hdr] at hev
      replace hev : (r_ev1 n m C[k] st).bind (r_evs n m (C.drop (k + 1))) = some [v] := hev
      refine ca_iload_n h dX12_holds_4 rfl ?_
      refine ca_aload_nr h dX12_holds_5 rfl ?_
      refine gi_X12_376 h (hs.1 _ _ _ ⟨rfl, rfl⟩) dX12_holds_6 ?_
      refine ca_top (show _ = nI C.length by rw [up_s, na_k (by decide)]; exact hcc) ?_
      refine ca_icmp_ge (tgt := 122) h dX12_holds_9 (by decide) (fun c_9 => ?_) (fun c_9 => ?_)
      · exact absurd (nI_lt hn1 (by omega)) c_9
      ·
        refine ca_aload_nr h dX12_holds_12 rfl ?_
        refine gs_X12_60 h hs ⟨rfl, rfl⟩ dX12_holds_13 ?_
        refine ca_iload_n h dX12_holds_16 rfl ?_
        refine ca_iald h rfl (hs.1 _ _ _ ⟨rfl, rfl⟩) (vp_in_nI (by omega) (by decide)) dX12_holds_17 ?_
        refine ca_top (show _ = C[k] by rw [up_s, na_k (by decide), nI_clamp (by omega)]; exact hcd k (by omega)) ?_
        refine ca_istore h dX12_holds_18 rfl ?_
        refine ca_iload h dX12_holds_20 rfl ?_
        refine ca_bipush h dX12_holds_22 bk_m23 ?_
        refine ca_icmp_ne (tgt := 48) h dX12_holds_24 (by decide) (fun c_24 => ?_) (fun c_24 => ?_)
        ·
          refine ca_iload h dX12_holds_48 rfl ?_
          refine ca_bipush h dX12_holds_50 bk_m20 ?_
          refine ca_icmp_le (tgt := 86) h dX12_holds_52 (by decide) (fun c_52 => ?_) (fun c_52 => ?_)
          ·
            unfold r_ev1 at hev
            rw [if_neg c_24, if_neg c_52] at hev
            obtain ⟨y, x, t, rfl⟩ : ∃ y x t, st = y :: x :: t := by
              cases st with
              | nil => exact absurd hev (by intro z; cases z)
              | cons y s =>
                cases s with
                | nil => exact absurd hev (by intro z; cases z)
                | cons x t => exact ⟨y, x, t, rfl⟩
            replace hev : r_evs n m (C.drop (k + 1)) (r_op C[k] x y :: t) = some [v] := hev
            have hsl : (y :: x :: t).length = t.length + 2 := rfl
            refine ca_iinc h dX12_holds_86 rfl ik_m1 rfl ?_
            refine ca_aload_nr h dX12_holds_89 rfl ?_
            refine gs_X12_63 h hs ⟨rfl, rfl⟩ dX12_holds_90 ?_
            refine ca_iload_n h dX12_holds_93 rfl ?_
            refine ca_iconst h dX12_holds_94 ik_1 ?_
            refine ca_isub h dX12_holds_95 ?_
            refine ca_top (show _ = nI t.length by rw [hsl, pk_m1, nI_pred]) ?_
            refine ca_iload h dX12_holds_96 rfl ?_
            refine ca_aload_nr h dX12_holds_98 rfl ?_
            refine gs_X12_63 h hs ⟨rfl, rfl⟩ dX12_holds_99 ?_
            refine ca_iload_n h dX12_holds_102 rfl ?_
            refine ca_iconst h dX12_holds_103 ik_1 ?_
            refine ca_isub h dX12_holds_104 ?_
            refine ca_top (show _ = nI t.length by rw [hsl, pk_m1, nI_pred]) ?_
            refine ca_iald h rfl (hs.1 _ _ _ ⟨rfl, rfl⟩) (vp_in_nI (by omega) (by decide)) dX12_holds_105 ?_
            refine ca_top (show _ = x by rw [up_s, na_fn, nI_clamp (by omega)]; exact hst.2.1) ?_
            refine ca_aload_nr h dX12_holds_106 rfl ?_
            refine gs_X12_63 h hs ⟨rfl, rfl⟩ dX12_holds_107 ?_
            refine ca_iload_n h dX12_holds_110 rfl ?_
            refine ca_top (show _ = nI (t.length + 1) by rw [hsl, pk_m1]) ?_
            refine ca_iald h rfl (hs.1 _ _ _ ⟨rfl, rfl⟩) (vp_in_nI (by omega) (by decide)) dX12_holds_111 ?_
            refine ca_top (show _ = y by rw [up_s, na_fn, nI_clamp (by omega)]; exact hst.1) ?_
            refine ca_si h hG ms_X12_409 (c_X12_operate) rfl rfl rfl rfl ⟨Nat.le_refl _, Nat.le_refl _⟩ rfl dX12_holds_112 ?_
            refine ca_iast h rfl (hs.1 _ _ _ ⟨rfl, rfl⟩) (vp_in_nI (by omega) (by decide)) dX12_holds_115 ?_
            refine ca_iinc h dX12_holds_116 rfl ik_1 rfl ?_
            refine ca_goto (tgt := 4) h dX12_holds_119 (by decide) ?_
            refine ca_pick [3, 4, 1, 0] rfl ?_
            exact ih_4 (k + 1) (by omega) (r_op C[k] x y :: t) _ (by rw [hsl, pk_m1]; rfl) _ (nI_1 k) (up g t.length (r_op C[k] x y)) ⟨up_s _ _ _, r_stk_up t (Nat.le_refl _) hst.2.2⟩ (by have : (r_op C[k] x y :: t).length = t.length + 1 := rfl; omega) hev _ (by rw [ch_st_nw, up_s, up_up, na_nw, nI_clamp (by omega)])
          ·
            unfold r_ev1 at hev
            rw [if_neg c_24, if_pos c_52] at hev
            replace hev : r_evs n m (C.drop (k + 1)) (e_vf n C[k] m :: st) = some [v] := hev
            refine ca_aload_nr h dX12_holds_55 rfl ?_
            refine gs_X12_63 h hs ⟨rfl, rfl⟩ dX12_holds_56 ?_
            refine ca_iload_n h dX12_holds_59 rfl ?_
            refine ca_iload h dX12_holds_60 rfl ?_
            refine ca_if_lt (tgt := 70) h dX12_holds_62 (by decide) (fun c_62 => ?_) (fun c_62 => ?_)
            ·
              refine ca_aload_nr h dX12_holds_70 rfl ?_
              refine ca_iload_n h dX12_holds_71 rfl ?_
              refine ca_iconst h dX12_holds_72 ik_m1 ?_
              refine ca_iload h dX12_holds_73 rfl ?_
              refine ca_isub h dX12_holds_75 ?_
              refine ca_vi h hG ml_X12_406 (c_X12_property hs (n := n) (v := C[k]) (by rw [up_s, na_k (by decide)]; exact hN) hm c_62) (ci := 12) rfl rfl rfl (hs.1 _ _ _ ⟨rfl, rfl⟩) rfl rfl rfl rfl ⟨Nat.le_refl _, Nat.le_refl _⟩ rfl dX12_holds_76 ?_
              refine ca_iast h rfl (hs.1 _ _ _ ⟨rfl, rfl⟩) (vp_in_nI (by omega) (by decide)) dX12_holds_79 ?_
              refine ca_iinc h dX12_holds_80 rfl ik_1 rfl ?_
              refine ca_goto (tgt := 116) h dX12_holds_83 (by decide) ?_
              refine ca_iinc h dX12_holds_116 rfl ik_1 rfl ?_
              refine ca_goto (tgt := 4) h dX12_holds_119 (by decide) ?_
              refine ca_pick [3, 4, 1, 0] rfl ?_
              exact ih_4 (k + 1) (by omega) (e_vf n C[k] m :: st) _ (nI_1 _) _ (nI_1 k) (up g st.length (e_vf n C[k] m)) ⟨up_s _ _ _, r_stk_up st (Nat.le_refl _) hst⟩ (by have : (e_vf n C[k] m :: st).length = st.length + 1 := rfl; omega) hev _ (by rw [ch_st_nw, up_s, up_up, na_nw, nI_clamp (by omega)])
            ·
              refine ca_iload h dX12_holds_65 rfl ?_
              refine ca_goto (tgt := 79) h dX12_holds_67 (by decide) ?_
              refine ca_top (show _ = e_vf n C[k] m by unfold e_vf; rw [if_pos c_62]) ?_
              refine ca_iast h rfl (hs.1 _ _ _ ⟨rfl, rfl⟩) (vp_in_nI (by omega) (by decide)) dX12_holds_79 ?_
              refine ca_iinc h dX12_holds_80 rfl ik_1 rfl ?_
              refine ca_goto (tgt := 116) h dX12_holds_83 (by decide) ?_
              refine ca_iinc h dX12_holds_116 rfl ik_1 rfl ?_
              refine ca_goto (tgt := 4) h dX12_holds_119 (by decide) ?_
              refine ca_pick [3, 4, 1, 0] rfl ?_
              exact ih_4 (k + 1) (by omega) (e_vf n C[k] m :: st) _ (nI_1 _) _ (nI_1 k) (up g st.length (e_vf n C[k] m)) ⟨up_s _ _ _, r_stk_up st (Nat.le_refl _) hst⟩ (by have : (e_vf n C[k] m :: st).length = st.length + 1 := rfl; omega) hev _ (by rw [ch_st_nw, up_s, up_up, na_nw, nI_clamp (by omega)])
        ·
          unfold r_ev1 at hev
          rw [if_pos c_24] at hev
          obtain ⟨x, t, rfl⟩ : ∃ x t, st = x :: t := by
            cases st with
            | nil => exact absurd hev (by intro z; cases z)
            | cons x t => exact ⟨x, t, rfl⟩
          replace hev : r_evs n m (C.drop (k + 1)) ((1 - x) :: t) = some [v] := hev
          have hsl : (x :: t).length = t.length + 1 := rfl
          refine ca_aload_nr h dX12_holds_27 rfl ?_
          refine gs_X12_63 h hs ⟨rfl, rfl⟩ dX12_holds_28 ?_
          refine ca_iload_n h dX12_holds_31 rfl ?_
          refine ca_iconst h dX12_holds_32 ik_1 ?_
          refine ca_isub h dX12_holds_33 ?_
          refine ca_top (show _ = nI t.length by rw [hsl]; exact nI_pred _) ?_
          refine ca_iconst h dX12_holds_34 ik_1 ?_
          refine ca_aload_nr h dX12_holds_35 rfl ?_
          refine gs_X12_63 h hs ⟨rfl, rfl⟩ dX12_holds_36 ?_
          refine ca_iload_n h dX12_holds_39 rfl ?_
          refine ca_iconst h dX12_holds_40 ik_1 ?_
          refine ca_isub h dX12_holds_41 ?_
          refine ca_top (show _ = nI t.length by rw [hsl]; exact nI_pred _) ?_
          refine ca_iald h rfl (hs.1 _ _ _ ⟨rfl, rfl⟩) (vp_in_nI (by omega) (by decide)) dX12_holds_42 ?_
          refine ca_top (show _ = x by rw [up_s, na_fn, nI_clamp (by omega)]; exact hst.1) ?_
          refine ca_isub h dX12_holds_43 ?_
          refine ca_iast h rfl (hs.1 _ _ _ ⟨rfl, rfl⟩) (vp_in_nI (by omega) (by decide)) dX12_holds_44 ?_
          refine ca_goto (tgt := 116) h dX12_holds_45 (by decide) ?_
          refine ca_iinc h dX12_holds_116 rfl ik_1 rfl ?_
          refine ca_goto (tgt := 4) h dX12_holds_119 (by decide) ?_
          refine ca_pick [2, 3, 4, 0] rfl ?_
          exact ih_4 (k + 1) (by omega) ((1 - x) :: t) _ rfl _ (nI_1 k) (up g t.length (1 - x)) ⟨up_s _ _ _, r_stk_up t (Nat.le_refl _) hst.2⟩ (by have : ((1 - x) :: t).length = t.length + 1 := rfl; omega) hev _ (by rw [ch_st_nw, up_s, up_up, na_nw, nI_clamp (by omega)])
  refine ca_pick [2, 3, 1, 0] rfl ?_
  exact loop_4 C.length 0 (Nat.zero_add _) [] _ rfl _ rfl (μ 16 33 0) trivial (Nat.le_refl _) hrun _ (by rw [na_id, up_id])
