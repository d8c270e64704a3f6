/-! THE REFERENCE AS A WHOLE (r_J): its network, snapshot, history, text; what records, undoes, saves -/
theorem r_N_row {n : ch_N} {w w' : Nat → Int32} (h : r_N n w) (hw : ∀ j, j < 1302 → w' j = w j) : r_N n w' := by
  have h24 := r_24 h
  have hcc := h.2.2.2.2.2.2.1
  have hmc := h.2.2.2.2.2.1
  have h58 : ∀ i c, i < 13 → c < 8 → Int32.toNatClampNeg (n 5 i c) ≤ 8 := fun i c hi hc => (r_c58 h hi hc).2
  obtain ⟨a1, ⟨a2, aK⟩, a3, ⟨⟨b1, b2⟩, b3, b4, b5, b6⟩, aM, aW⟩ := h
  refine ⟨fun j hj => by rw [hw j (by omega)]; exact a1 j hj, ⟨fun t ht => by rw [hw _ (by omega)]; exact a2 t ht, aK⟩, fun c f hc hf => by rw [hw _ (by omega)]; exact a3 c f hc hf, ?_, fun i hi => ?_, aW⟩
  · unfold r_R
    rw [hw 1 (by omega)]
    refine ⟨⟨b1, b2⟩, fun r hr => ?_, fun r t hr ht e1 e2 => ?_, fun a b ha hb hz => ?_, b6⟩
    · obtain ⟨a, b, g⟩ := b3 r hr
      refine ⟨a, b, ?_⟩
      rw [hw _ (by omega), hw _ (by omega), hw _ (by omega), hw _ (by omega), hw _ (by omega)]
      exact g
    · rw [hw _ (by omega), hw (90 + 5 * t) (by omega)] at e1
      rw [hw _ (by omega), hw (90 + 5 * t + 1) (by omega)] at e2
      exact b4 r t hr ht e1 e2
    · obtain ⟨r, hr, g1, g2⟩ := b5 a b ha hb hz
      exact ⟨r, hr, by rw [hw _ (by omega)]; exact g1, by rw [hw _ (by omega)]; exact g2⟩
  · exact r_M_congr (aM i hi) (fun f hf => hw _ (by omega)) rfl rfl rfl rfl rfl (fun _ => rfl) (fun c hc => h58 i c (by omega) hc)
def r_T (tx p : ch_N) : Prop := ∃ L, L ≤ 700 ∧ tx 12 0 0 = nI L ∧ p 22 0 12 = nI L ∧ (∀ i, i < L → p 30 0 i = tx 13 0 i ∧ ∃ b, b < 256 ∧ tx 13 0 i = nI b) ∧ p 22 0 19 = tx 12 0 2
def r_J (n sn tx : ch_N) (F : Int32) (u : Nat) (hs : Nat → ch_N) (p : ch_N) : Prop :=
  r_N n (p 23 0) ∧ (p 22 0 7 = F ∧ (F = 0 ∨ F = 1) ∧ (F = 1 → r_N sn (p 26 0))) ∧ (p 22 0 5 = nI u ∧ u ≤ 12 ∧ ∀ i, i < u → r_N (hs i) (fun j => p 27 0 (1302 * i + j))) ∧ r_T tx p
theorem r_J_mk {n n' sn tx : ch_N} {F : Int32} {u : Nat} {hs : Nat → ch_N} {p p' : ch_N} (h : r_J n sn tx F u hs p) (hN : r_N n' (p' 23 0)) (e5 : p' 22 0 5 = p 22 0 5) (e7 : p' 22 0 7 = p 22 0 7) (e12 : p' 22 0 12 = p 22 0 12) (e19 : p' 22 0 19 = p 22 0 19) (e26 : p' 26 0 = p 26 0) (e27 : p' 27 0 = p 27 0) (e30 : p' 30 0 = p 30 0) : r_J n' sn tx F u hs p' := by
  obtain ⟨-, ⟨b1, b2, b3⟩, ⟨c1, c2, c3⟩, ⟨L, d1, d2, d3, d4, d5⟩⟩ := h
  exact ⟨hN, ⟨by rw [e7]; exact b1, b2, fun z => by rw [e26]; exact b3 z⟩, ⟨by rw [e5]; exact c1, c2, fun i hi => by rw [e27]; exact c3 i hi⟩, ⟨L, d1, d2, by rw [e12]; exact d3, fun i hi => by rw [e30]; exact d4 i hi, by rw [e19]; exact d5⟩⟩
theorem r_J_th {n sn tx : ch_N} {F : Int32} {u : Nat} {hs : Nat → ch_N} {p : ch_N} {v : Int32} (h : r_J n sn tx F u hs p) : r_J n sn tx F u hs (nw p 22 0 6 v) := by
  refine r_J_mk h (by rw [nw_k (by decide)]; exact h.1) ?_ ?_ ?_ ?_ (by rw [nw_k (by decide)]) (by rw [nw_k (by decide)]) (by rw [nw_k (by decide)]) <;> exact (nw_at _ _ _ _ _ _ _ _).trans (if_neg (by omega))
theorem r_J_wq {n n' sn tx : ch_N} {F : Int32} {u : Nat} {hs : Nat → ch_N} {μ : ch_M} {a b w : Nat → Int32} {x : Int32} (h : r_J n sn tx F u hs (μ 16)) (hN : r_N n' w) : r_J n' sn tx F u hs (r_wq μ a b x w 16) := by
  have hk : ∀ kd, kd ≠ 23 → kd ≠ 28 → kd ≠ 29 → kd ≠ 22 → r_wq μ a b x w 16 kd = μ 16 kd := fun kd h1 h2 h3 h4 => by rw [r_wq_16, na_k h1]; unfold r_pq; rw [nw_k h4, na_k h3, na_k h2]
  have h22 : ∀ j, j ≠ 10 → r_wq μ a b x w 16 22 0 j = μ 16 22 0 j := fun j hj => by rw [r_wq_16, na_k (by decide)]; unfold r_pq; rw [nw_at, if_neg (fun z => hj z.2.2), na_k (by decide), na_k (by decide)]
  refine r_J_mk h (by rw [r_wq_at]; exact hN) (h22 5 (by decide)) (h22 7 (by decide)) (h22 12 (by decide)) (h22 19 (by decide)) (by rw [hk 26 (by decide) (by decide) (by decide) (by decide)]) (by rw [hk 27 (by decide) (by decide) (by decide) (by decide)]) (by rw [hk 30 (by decide) (by decide) (by decide) (by decide)])
theorem r_wq_up (μ : ch_M) (a b : Nat → Int32) (x : Int32) (w : Nat → Int32) : r_wq μ a b x w = up μ 16 (r_wq μ a b x w 16) := by
  funext k
  by_cases e : k = 16
  · subst e; rw [up_s]
  · rw [up_n e]; unfold r_wq r_wr; rw [up_n e, up_n e]
/-- what a public call of the reference leaves -/
def r_A (v : Option Value) (t : Int32) (n sn tx : ch_N) (F : Int32) (u : Nat) (hs : Nat → ch_N) (S : ch_S) (μ : ch_M) : Option Value → ch_S → ch_M → Prop :=
  ch_FX v S (fun μ' => ∃ p, μ' = up μ 16 p ∧ p 22 0 6 = t ∧ r_J n sn tx F u hs p)
def r_ph (hs : Nat → ch_N) (u : Nat) (n : ch_N) : Nat → ch_N := fun i => if u = 12 then (if i < 11 then hs (i + 1) else n) else (if i < u then hs i else n)
def r_pu (u : Nat) : Nat := if u = 12 then 12 else u + 1
def r_hr (h : Nat → Int32) (k : Nat) : Nat → Int32 := fun i => if i < 1302 * k then h (i + 1302) else h i
theorem r_hr_0 (h : Nat → Int32) : r_hr h 0 = h := by funext i; unfold r_hr; rw [if_neg (by omega)]
theorem r_hr_s (h : Nat → Int32) (k : Nat) : r_cpy (r_hr h k) k (fun j => r_hr h k (1302 * (k + 1) + j)) 1302 = r_hr h (k + 1) := by
  funext i
  unfold r_cpy r_hr
  by_cases g : 1302 * k ≤ i ∧ i < 1302 * k + 1302
  · rw [if_pos g]
    show (if 1302 * (k + 1) + (i - 1302 * k) < 1302 * k then h (1302 * (k + 1) + (i - 1302 * k) + 1302) else h (1302 * (k + 1) + (i - 1302 * k))) = _
    rw [if_neg (by omega), if_pos (by omega)]
    congr 1
    omega
  · rw [if_neg g]
    by_cases g2 : i < 1302 * k
    · rw [if_pos g2, if_pos (by omega)]
    · rw [if_neg g2, if_neg (by omega)]
theorem na_fn (n : ch_N) (kd i : Nat) (f : Nat → Int32) : na n kd i f kd i = f := by funext j; rw [na_at, if_pos ⟨rfl, rfl⟩]
theorem nw_id (n : ch_N) (kd i j : Nat) : nw n kd i j (n kd i j) = n := by
  funext a b c
  rw [nw_at]
  by_cases h : a = kd ∧ b = i ∧ c = j
  · rw [if_pos h, h.1, h.2.1, h.2.2]
  · rw [if_neg h]
set_option maxHeartbeats 100000 in
theorem c_X12_record {l : Launch} {E : ch_E} {S : ch_S} {μ : ch_M} (hs : ch_Std E S) {n sn tx : ch_N} {F : Int32} {u : Nat} {hst : Nat → ch_N} (hJ : r_J n sn tx F u hst (μ 16)) : ch_C E l yX12_record cX12_record 2 none 2 0 0 S μ [.ref (S.1 16 22 0)] (ch_FX none S (fun μ' => ∃ p, μ' = up μ 16 p ∧ p 22 0 6 = μ 16 22 0 6 ∧ p 23 0 = μ 16 23 0 ∧ r_J n sn tx F (r_pu u) (r_ph hst u n) p)) := by
  refine ch_enter rfl rfl ?_
  intro X hl0 h hG hR hnm
  have h : ch_H X E RX12 cX12_record 2 := h
  obtain ⟨hN, ⟨b1, b2, b3⟩, ⟨c1, c2, c3⟩, hT⟩ := id hJ
  show ch_W X E 2 S μ 0 0 0 [(0, .ref (S.1 16 22 0))] []
  refine ca_aload_nr h dX12_record_0 rfl ?_
  refine gi_X12_270 h (hs.1 _ _ _ ⟨rfl, rfl⟩) dX12_record_1 ?_
  refine ca_bipush h dX12_record_4 bk_12 ?_
  rw [c1]
  refine ca_icmp_ne (tgt := 48) h dX12_record_6 (by decide) (fun c_6 => ?_) (fun c_6 => ?_)
  ·
    refine ca_aload_nr h dX12_record_48 rfl ?_
    obtain ⟨H, hH⟩ : ∃ z, z = μ 16 27 0 := ⟨_, rfl⟩
    obtain ⟨v, hv⟩ : ∃ z, z = u := ⟨_, rfl⟩
    have hu12 : ¬ u = 12 := fun z => c_6 (by rw [z]; rfl)
    have hv11 : v ≤ 11 := by omega
    have hrw : ∀ i, i < v → r_N (r_ph hst u n i) (fun j => H (1302 * i + j)) := fun i hi => by unfold r_ph; rw [if_neg hu12, if_pos (by omega), hH]; exact c3 i (by omega)
    have hlast : r_ph hst u n v = n := by unfold r_ph; rw [if_neg hu12, if_neg (by omega)]
    have hpu : r_pu u = v + 1 := by unfold r_pu; rw [if_neg hu12, hv]
    refine ca_mem (μ'' := up μ 16 (nw (na (μ 16) 27 0 H) 22 0 5 (nI v))) (by rw [hH, na_id, hv, ← c1, nw_id, up_id]) ?_
    refine gs_X12_9 h hs ⟨rfl, rfl⟩ dX12_record_49 ?_
    refine ca_iconst h dX12_record_52 ik_0 ?_
    refine ca_aload_nr h dX12_record_53 rfl ?_
    refine gs_X12_22 h hs ⟨rfl, rfl⟩ dX12_record_54 ?_
    refine ca_aload_nr h dX12_record_57 rfl ?_
    refine gi_X12_270 h (hs.1 _ _ _ ⟨rfl, rfl⟩) dX12_record_58 ?_
    refine ca_top (show _ = nI v by rw [up_s, nw_at, if_pos ⟨rfl, rfl, rfl⟩]) ?_
    refine ca_sv h hG ms_X12_266 (c_X12_copy (kd := 23) (kd2 := 27) (a := 0) (b := v) (hs.1 16 23 0 ⟨rfl, rfl⟩) (hs.1 16 27 0 ⟨rfl, rfl⟩) rfl rfl (by omega) (by omega) (by decide) (by decide) (Or.inl (by decide))) rfl rfl rfl rfl ⟨Nat.le_refl _, Nat.le_refl _⟩ rfl dX12_record_61 ?_
    refine ca_aload_nr h dX12_record_64 rfl ?_
    refine ca_dup h dX12_record_65 rfl ?_
    refine gi_X12_270 h (hs.1 _ _ _ ⟨rfl, rfl⟩) dX12_record_66 ?_
    refine ca_iconst h dX12_record_69 ik_1 ?_
    refine ca_iadd h dX12_record_70 ?_
    refine pi_X12_270 h (hs.1 _ _ _ ⟨rfl, rfl⟩) dX12_record_71 ?_
    refine ca_vreturn h hR dX12_record_74 ?_
    refine ⟨rfl, rfl, _, by simp only [r_cm, ch_st_nw, up_s, up_up]; rfl, ?_, ?_, ?_⟩
    · simp [nw_at, na_at]
    · funext j; simp [nw_at, na_at]
    · have e27 : ∀ (q : ch_N) (g : Nat → Int32) (y : Int32), nw (na q 27 0 g) 22 0 5 y 27 0 = g := fun q g y => by rw [nw_k (by decide)]; funext j; rw [na_at, if_pos ⟨rfl, rfl⟩]
      refine ⟨by simp only [nw_k (show (23 : Nat) ≠ 22 by decide), na_k (show (23 : Nat) ≠ 27 by decide)]; exact hN, ⟨by simp [nw_at, na_at]; exact b1, b2, fun z => ?_⟩, ⟨by rw [hpu]; simp [nw_at, na_at, nI_1], by omega, fun i hi => ?_⟩, ?_⟩
      · simp only [nw_k (show (26 : Nat) ≠ 22 by decide), na_k (show (26 : Nat) ≠ 27 by decide)]; exact b3 z
      · rw [hpu] at hi
        rw [e27, e27]
        by_cases e : i = v
        · rw [e, hlast]
          refine r_N_row hN (fun j hj => ?_)
          unfold r_cpy
          rw [if_pos (by omega)]
          simp only [nw_k (show (23 : Nat) ≠ 22 by decide), na_k (show (23 : Nat) ≠ 27 by decide)]
          congr 1
          omega
        · refine r_N_row (hrw i (by omega)) (fun j hj => ?_)
          unfold r_cpy
          rw [if_neg (by omega)]
      · obtain ⟨L, d1, d2, d3, d4, d5⟩ := hT
        refine ⟨L, d1, d2, by simp [nw_at, na_at]; exact d3, fun i hi => ?_, by simp [nw_at, na_at]; exact d5⟩
        simp only [nw_k (show (30 : Nat) ≠ 22 by decide), na_k (show (30 : Nat) ≠ 27 by decide)]
        exact d4 i hi
  ·
    refine ca_iconst h dX12_record_9 ik_1 ?_
    refine ca_istore_n h dX12_record_10 rfl ?_
    have loop_11 : ∀ (jj k : Nat), k + jj = 11 → ∀ (x1 : Int32) (e1 : x1 = nI (k + 1)) (mm : ch_M) (em : mm = up μ 16 (na (μ 16) 27 0 (r_hr (μ 16 27 0) k))), ch_W X E 2 S mm 0 0 11 [(0, .ref (S.1 16 22 0)), (1, .int x1)] [] := by
      intro jj
      induction jj with
      | zero =>
        intro k hn x1 e1 mm em
        have hn : k = 11 := by omega
        subst e1 em
        refine ca_iload_n h dX12_record_11 rfl ?_
        refine ca_bipush h dX12_record_12 bk_12 ?_
        refine ca_icmp_ge (tgt := 38) h dX12_record_14 (by decide) (fun c_14 => ?_) (fun c_14 => ?_)
        ·
          refine ca_aload_nr h dX12_record_38 rfl ?_
          refine ca_dup h dX12_record_39 rfl ?_
          refine gi_X12_270 h (hs.1 _ _ _ ⟨rfl, rfl⟩) dX12_record_40 ?_
          refine ca_iconst h dX12_record_43 ik_1 ?_
          refine ca_isub h dX12_record_44 ?_
          refine pi_X12_270 h (hs.1 _ _ _ ⟨rfl, rfl⟩) dX12_record_45 ?_
          refine ca_aload_nr h dX12_record_48 rfl ?_
          obtain ⟨H, hH⟩ : ∃ z, z = r_hr (μ 16 27 0) 11 := ⟨_, rfl⟩
          obtain ⟨v, hv⟩ : ∃ z, z = 11 := ⟨_, rfl⟩
          have hu12 : u = 12 := (nI_eq (b := 12) (by omega) (by decide)).mp c_6
          have hv11 : v ≤ 11 := by omega
          have hrw : ∀ i, i < v → r_N (r_ph hst u n i) (fun j => H (1302 * i + j)) := fun i hi => by
            unfold r_ph
            rw [if_pos hu12, if_pos (by omega), hH]
            refine r_N_row (c3 (i + 1) (by omega)) (fun j hj => ?_)
            unfold r_hr
            rw [if_pos (by omega)]
            congr 1
            omega
          have hlast : r_ph hst u n v = n := by unfold r_ph; rw [if_pos hu12, if_neg (by omega)]
          have hpu : r_pu u = v + 1 := by unfold r_pu; rw [if_pos hu12, hv]
          refine ca_mem (μ'' := up μ 16 (nw (na (μ 16) 27 0 H) 22 0 5 (nI v))) (by rw [hH, hv, show k = 11 from hn]; simp only [ch_st_nw, up_s, up_up]; rw [na_at, if_neg (by decide), c1, hu12]; rfl) ?_
          refine gs_X12_9 h hs ⟨rfl, rfl⟩ dX12_record_49 ?_
          refine ca_iconst h dX12_record_52 ik_0 ?_
          refine ca_aload_nr h dX12_record_53 rfl ?_
          refine gs_X12_22 h hs ⟨rfl, rfl⟩ dX12_record_54 ?_
          refine ca_aload_nr h dX12_record_57 rfl ?_
          refine gi_X12_270 h (hs.1 _ _ _ ⟨rfl, rfl⟩) dX12_record_58 ?_
          refine ca_top (show _ = nI v by rw [up_s, nw_at, if_pos ⟨rfl, rfl, rfl⟩]) ?_
          refine ca_sv h hG ms_X12_266 (c_X12_copy (kd := 23) (kd2 := 27) (a := 0) (b := v) (hs.1 16 23 0 ⟨rfl, rfl⟩) (hs.1 16 27 0 ⟨rfl, rfl⟩) rfl rfl (by omega) (by omega) (by decide) (by decide) (Or.inl (by decide))) rfl rfl rfl rfl ⟨Nat.le_refl _, Nat.le_refl _⟩ rfl dX12_record_61 ?_
          refine ca_aload_nr h dX12_record_64 rfl ?_
          refine ca_dup h dX12_record_65 rfl ?_
          refine gi_X12_270 h (hs.1 _ _ _ ⟨rfl, rfl⟩) dX12_record_66 ?_
          refine ca_iconst h dX12_record_69 ik_1 ?_
          refine ca_iadd h dX12_record_70 ?_
          refine pi_X12_270 h (hs.1 _ _ _ ⟨rfl, rfl⟩) dX12_record_71 ?_
          refine ca_vreturn h hR dX12_record_74 ?_
          refine ⟨rfl, rfl, _, by simp only [r_cm, ch_st_nw, up_s, up_up]; rfl, ?_, ?_, ?_⟩
          · simp [nw_at, na_at]
          · funext j; simp [nw_at, na_at]
          · have e27 : ∀ (q : ch_N) (g : Nat → Int32) (y : Int32), nw (na q 27 0 g) 22 0 5 y 27 0 = g := fun q g y => by rw [nw_k (by decide)]; funext j; rw [na_at, if_pos ⟨rfl, rfl⟩]
            refine ⟨by simp only [nw_k (show (23 : Nat) ≠ 22 by decide), na_k (show (23 : Nat) ≠ 27 by decide)]; exact hN, ⟨by simp [nw_at, na_at]; exact b1, b2, fun z => ?_⟩, ⟨by rw [hpu]; simp [nw_at, na_at, nI_1], by omega, fun i hi => ?_⟩, ?_⟩
            · simp only [nw_k (show (26 : Nat) ≠ 22 by decide), na_k (show (26 : Nat) ≠ 27 by decide)]; exact b3 z
            · rw [hpu] at hi
              rw [e27, e27]
              by_cases e : i = v
              · rw [e, hlast]
                refine r_N_row hN (fun j hj => ?_)
                unfold r_cpy
                rw [if_pos (by omega)]
                simp only [nw_k (show (23 : Nat) ≠ 22 by decide), na_k (show (23 : Nat) ≠ 27 by decide)]
                congr 1
                omega
              · refine r_N_row (hrw i (by omega)) (fun j hj => ?_)
                unfold r_cpy
                rw [if_neg (by omega)]
            · obtain ⟨L, d1, d2, d3, d4, d5⟩ := hT
              refine ⟨L, d1, d2, by simp [nw_at, na_at]; exact d3, fun i hi => ?_, by simp [nw_at, na_at]; exact d5⟩
              simp only [nw_k (show (30 : Nat) ≠ 22 by decide), na_k (show (30 : Nat) ≠ 27 by decide)]
              exact d4 i hi
        · exact absurd c_14 (nI_nlt (a := k + 1) (b := 12) (by omega) (by omega))
      | succ jj ih_11 =>
        intro k hn x1 e1 mm em
        have hn1 : k < 11 := by omega
        subst e1 em
        refine ca_iload_n h dX12_record_11 rfl ?_
        refine ca_bipush h dX12_record_12 bk_12 ?_
        refine ca_icmp_ge (tgt := 38) h dX12_record_14 (by decide) (fun c_14 => ?_) (fun c_14 => ?_)
        · exact absurd (nI_lt (a := k + 1) (b := 12) (by omega) (by decide)) c_14
        ·
          refine ca_aload_nr h dX12_record_17 rfl ?_
          refine gs_X12_22 h hs ⟨rfl, rfl⟩ dX12_record_18 ?_
          refine ca_iload_n h dX12_record_21 rfl ?_
          refine ca_aload_nr h dX12_record_22 rfl ?_
          refine gs_X12_22 h hs ⟨rfl, rfl⟩ dX12_record_23 ?_
          refine ca_iload_n h dX12_record_26 rfl ?_
          refine ca_iconst h dX12_record_27 ik_1 ?_
          refine ca_isub h dX12_record_28 ?_
          refine ca_top (nI_pred k) ?_
          refine ca_sv h hG ms_X12_266 (c_X12_copy (kd := 27) (kd2 := 27) (a := k + 1) (b := k) (hs.1 16 27 0 ⟨rfl, rfl⟩) (hs.1 16 27 0 ⟨rfl, rfl⟩) rfl rfl (by omega) (by omega) (by decide) (by decide) (Or.inr (by omega))) rfl rfl rfl rfl ⟨Nat.le_refl _, Nat.le_refl _⟩ rfl dX12_record_29 ?_
          refine ca_iinc h dX12_record_32 rfl ik_1 rfl ?_
          refine ca_goto (tgt := 11) h dX12_record_35 (by decide) ?_
          refine ca_pick [1, 0] rfl ?_
          exact ih_11 (k + 1) (by omega) _ (nI_1 (k + 1)) _ (by unfold r_cm; simp only [up_s, up_up]; rw [na_na]; congr 2; rw [na_fn, r_hr_s])
    refine ca_pick [1, 0] rfl ?_
    exact loop_11 11 0 (Nat.zero_add _) _ rfl _ (by rw [r_hr_0, na_id, up_id])
