theorem n_X11_mobileCount {l : Launch} {E : ch_E} {S : ch_S} {μ : ch_M} (hs : ch_Std E S) {n : ch_N} (e0 : μ 0 = n) : ch_C E l yX11_mobileCount cX11_mobileCount 1 (some FieldType.int) 1 0 0 S μ [.ref (S.1 15 11 0)] (ch_F (some (.int (n 0 0 2))) S (μ)) := by
  subst e0
  exact c_X11_mobileCount hs 
theorem n_X11_clock {l : Launch} {E : ch_E} {S : ch_S} {μ : ch_M} (hs : ch_Std E S) {n : ch_N} (e0 : μ 0 = n) : ch_C E l yX11_clock cX11_clock 1 (some FieldType.int) 1 0 0 S μ [.ref (S.1 15 11 0)] (ch_F (some (.int (n 0 0 3))) S (μ)) := by
  subst e0
  exact c_X11_clock hs 
theorem n_X11_total {l : Launch} {E : ch_E} {S : ch_S} {μ : ch_M} (hs : ch_Std E S) {n : ch_N} (e0 : μ 0 = n) {x : Int32} : ch_C E l yX11_total cX11_total 2 (some FieldType.int) 2 0 0 S μ [.ref (S.1 15 11 0), .int x] (ch_F (some (.int (k_tot n x))) S (μ)) := by
  subst e0
  exact c_X11_total hs 
theorem n_X11_hysteresis {l : Launch} {E : ch_E} {S : ch_S} {μ : ch_M} (hs : ch_Std E S) {n : ch_N} (e0 : μ 0 = n) {a b : Nat} (hc8 : k_cc n ≤ 8) (ha : a < k_cc n) (hb : b < k_cc n) : ch_C E l yX11_hysteresis cX11_hysteresis 4 (some FieldType.int) 2 0 0 S μ [.ref (S.1 15 11 0), .int (nI a), .int (nI b)] (ch_F (some (.int (if n 2 (8 * a + b) 0 = 0 then (-1) else n 2 (8 * a + b) 1))) S (μ)) := by
  subst e0
  exact c_X11_hysteresis hs hc8 ha hb
theorem n_X11_successes {l : Launch} {E : ch_E} {S : ch_S} {μ : ch_M} (hs : ch_Std E S) {n : ch_N} (e0 : μ 0 = n) {a b : Nat} (hc8 : k_cc n ≤ 8) (ha : a < k_cc n) (hb : b < k_cc n) : ch_C E l yX11_successes cX11_successes 3 (some FieldType.int) 2 0 0 S μ [.ref (S.1 15 11 0), .int (nI a), .int (nI b)] (ch_F (some (.int (n 2 (8 * a + b) 2))) S (μ)) := by
  subst e0
  exact c_X11_successes hs hc8 ha hb
theorem n_X11_refusals {l : Launch} {E : ch_E} {S : ch_S} {μ : ch_M} (hs : ch_Std E S) {n : ch_N} (e0 : μ 0 = n) {a b : Nat} (hc8 : k_cc n ≤ 8) (ha : a < k_cc n) (hb : b < k_cc n) : ch_C E l yX11_refusals cX11_refusals 3 (some FieldType.int) 2 0 0 S μ [.ref (S.1 15 11 0), .int (nI a), .int (nI b)] (ch_F (some (.int (n 2 (8 * a + b) 3))) S (μ)) := by
  subst e0
  exact c_X11_refusals hs hc8 ha hb
theorem n_X11_x {l : Launch} {E : ch_E} {S : ch_S} {μ : ch_M} (hs : ch_Std E S) {n : ch_N} (e0 : μ 0 = n) {m : Nat} (hm12 : k_mc n ≤ 12) (hm : m < k_mc n) : ch_C E l yX11_x cX11_x 2 (some FieldType.int) 2 0 0 S μ [.ref (S.1 15 11 0), .int (nI m)] (ch_F (some (.int (n 3 m 0))) S (μ)) := by
  subst e0
  exact c_X11_x hs hm12 hm
theorem n_X11_y {l : Launch} {E : ch_E} {S : ch_S} {μ : ch_M} (hs : ch_Std E S) {n : ch_N} (e0 : μ 0 = n) {m : Nat} (hm12 : k_mc n ≤ 12) (hm : m < k_mc n) : ch_C E l yX11_y cX11_y 2 (some FieldType.int) 2 0 0 S μ [.ref (S.1 15 11 0), .int (nI m)] (ch_F (some (.int (n 3 m 1))) S (μ)) := by
  subst e0
  exact c_X11_y hs hm12 hm
theorem n_X11_state {l : Launch} {E : ch_E} {S : ch_S} {μ : ch_M} (hs : ch_Std E S) {n : ch_N} (e0 : μ 0 = n) {m : Nat} (hm12 : k_mc n ≤ 12) (hm : m < k_mc n) : ch_C E l yX11_state cX11_state 2 (some FieldType.int) 2 0 0 S μ [.ref (S.1 15 11 0), .int (nI m)] (ch_F (some (.int (n 3 m 4))) S (μ)) := by
  subst e0
  exact c_X11_state hs hm12 hm
theorem n_X11_servingCell {l : Launch} {E : ch_E} {S : ch_S} {μ : ch_M} (hs : ch_Std E S) {n : ch_N} (e0 : μ 0 = n) {m : Nat} (hm12 : k_mc n ≤ 12) (hm : m < k_mc n) : ch_C E l yX11_servingCell cX11_servingCell 2 (some FieldType.int) 2 0 0 S μ [.ref (S.1 15 11 0), .int (nI m)] (ch_F (some (.int (n 3 m 5))) S (μ)) := by
  subst e0
  exact c_X11_servingCell hs hm12 hm
theorem n_X11_remaining {l : Launch} {E : ch_E} {S : ch_S} {μ : ch_M} (hs : ch_Std E S) {n : ch_N} (e0 : μ 0 = n) {m : Nat} (hm12 : k_mc n ≤ 12) (hm : m < k_mc n) : ch_C E l yX11_remaining cX11_remaining 2 (some FieldType.int) 2 0 0 S μ [.ref (S.1 15 11 0), .int (nI m)] (ch_F (some (.int (n 3 m 6))) S (μ)) := by
  subst e0
  exact c_X11_remaining hs hm12 hm
theorem n_X11_requestCell {l : Launch} {E : ch_E} {S : ch_S} {μ : ch_M} (hs : ch_Std E S) {n : ch_N} (e0 : μ 0 = n) {m : Nat} (hm12 : k_mc n ≤ 12) (hm : m < k_mc n) : ch_C E l yX11_requestCell cX11_requestCell 2 (some FieldType.int) 2 0 0 S μ [.ref (S.1 15 11 0), .int (nI m)] (ch_F (some (.int (n 3 m 8))) S (μ)) := by
  subst e0
  exact c_X11_requestCell hs hm12 hm
theorem n_X11_average {l : Launch} {E : ch_E} {S : ch_S} {μ : ch_M} (hs : ch_Std E S) {n : ch_N} (e0 : μ 0 = n) {m c : Nat} (hw : k_wf n) (hm : m < k_mc n) (hc : c < k_cc n) : ch_C E l yX11_average cX11_average 3 (some FieldType.int) 2 0 0 S μ [.ref (S.1 15 11 0), .int (nI m), .int (nI c)] (ch_F (some (.int (k_avg n m (nI c)))) S (μ)) := by
  subst e0
  exact c_X11_average hs hw hm hc
theorem n_X11_reportCount {l : Launch} {E : ch_E} {S : ch_S} {μ : ch_M} (hs : ch_Std E S) {n : ch_N} (e0 : μ 0 = n) {m c : Nat} (hw : k_wf n) (hm : m < k_mc n) (hc : c < k_cc n) : ch_C E l yX11_reportCount cX11_reportCount 3 (some FieldType.int) 2 0 0 S μ [.ref (S.1 15 11 0), .int (nI m), .int (nI c)] (ch_F (some (.int (k_rep n m (nI c)))) S (μ)) := by
  subst e0
  exact c_X11_reportCount hs hw hm hc
theorem n_X11_isBarred {l : Launch} {E : ch_E} {S : ch_S} {μ : ch_M} (hs : ch_Std E S) {n : ch_N} (e0 : μ 0 = n) {m c : Nat} (hw : k_wf n) (hm : m < k_mc n) (hc : c < k_cc n) : ch_C E l yX11_isBarred cX11_isBarred 3 (some FieldType.boolean) 2 0 0 S μ [.ref (S.1 15 11 0), .int (nI m), .int (nI c)] (ch_F (some (.int (bI (k_isb n m (nI c) (n 0 0 3))))) S (μ)) := by
  subst e0
  exact c_X11_isBarred hs hw hm hc
theorem n_X11_candidate {l : Launch} {E : ch_E} {S : ch_S} {μ : ch_M} (hs : ch_Std E S) {n : ch_N} (e0 : μ 0 = n) {m : Nat} {y : Int32} (hw : k_wf n) (hm : m < k_mc n) (hy : ¬ y < 0) : ch_C E l yX11_candidate cX11_candidate 3 (some FieldType.int) 5 0 0 S μ [.ref (S.1 15 11 0), .int (nI m), .int y] (ch_F (some (.int (k_car (k_rank n (μ 15) (k_ix 12 12 (nI m))) y))) S (up μ 15 (k_rank n (μ 15) (k_ix 12 12 (nI m))))) := by
  subst e0
  exact c_X11_candidate hs hw hm hy
theorem n_X11_busyChannels {l : Launch} {E : ch_E} {S : ch_S} {μ : ch_M} (hs : ch_Std E S) {n : ch_N} (e0 : μ 0 = n) {c : Nat} (hm12 : k_mc n ≤ 12) (hc : c < k_cc n) : ch_C E l yX11_busyChannels cX11_busyChannels 2 (some FieldType.int) 3 0 0 S μ [.ref (S.1 15 11 0), .int (nI c)] (ch_F (some (.int (k_tk n (nI c)))) S (μ)) := by
  subst e0
  exact c_X11_busyChannels hs hm12 hc
theorem n_X11_queueLength {l : Launch} {E : ch_E} {S : ch_S} {μ : ch_M} (hs : ch_Std E S) {n : ch_N} (e0 : μ 0 = n) {c : Nat} (hm12 : k_mc n ≤ 12) (hc : c < k_cc n) : ch_C E l yX11_queueLength cX11_queueLength 2 (some FieldType.int) 3 0 0 S μ [.ref (S.1 15 11 0), .int (nI c)] (ch_F (some (.int (k_rq n (nI c)))) S (μ)) := by
  subst e0
  exact c_X11_queueLength hs hm12 hc
theorem n_X11_queued {l : Launch} {E : ch_E} {S : ch_S} {μ : ch_M} (hs : ch_Std E S) {n : ch_N} (e0 : μ 0 = n) {c : Nat} {y : Int32} (hm12 : k_mc n ≤ 12) (hc : c < k_cc n) (hy : ¬ y < 0) : ch_C E l yX11_queued cX11_queued 3 (some FieldType.int) 5 0 0 S μ [.ref (S.1 15 11 0), .int (nI c), .int y] (ch_F (some (.int (k_qm n (nI c) y))) S (μ)) := by
  subst e0
  exact c_X11_queued hs hm12 hc hy
theorem n_X11_congestedTicks {l : Launch} {E : ch_E} {S : ch_S} {μ : ch_M} (hs : ch_Std E S) {n : ch_N} (e0 : μ 0 = n) {c : Nat} (hc8 : k_cc n ≤ 8) (hc : c < k_cc n) : ch_C E l yX11_congestedTicks cX11_congestedTicks 2 (some FieldType.int) 2 0 0 S μ [.ref (S.1 15 11 0), .int (nI c)] (ch_F (some (.int (n 1 c 8))) S (μ)) := by
  subst e0
  exact c_X11_congestedTicks hs hc8 hc
