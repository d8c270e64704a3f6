/-! NAMES OF OBJECTS, what they refer to; each field's row, each call site's words -/
/-- which names there are: 15 networks (0 now, 1 trial, 2 snapshot, 3 .. 14 history), the class's other objects, the reference's -/
def ch_V (k kd i : Nat) : Prop := match kd with
  | 0 => k < 15 ∧ i = 0
  | 1 => k < 15 ∧ i < 9
  | 2 => k < 15 ∧ i < 65
  | 3 => k < 15 ∧ i < 13
  | 4 => k < 15 ∧ i < 13
  | 5 => k < 15 ∧ i < 13
  | 6 => k < 15 ∧ i < 13
  | 7 => k < 15 ∧ i = 0
  | 8 => k < 15 ∧ i = 0
  | 9 => k < 15 ∧ i = 0
  | 10 => k < 15 ∧ i = 0
  | 11 => k = 15 ∧ i = 0
  | 12 => k = 15 ∧ i = 0
  | 13 => k = 15 ∧ i = 0
  | 14 => k = 15 ∧ i = 0
  | 15 => k = 15 ∧ i = 0
  | 16 => k = 15 ∧ i = 0
  | 17 => k = 15 ∧ i = 0
  | 18 => k = 15 ∧ i = 0
  | 19 => k = 15 ∧ i = 0
  | 20 => k = 15 ∧ i = 0
  | 21 => k = 15 ∧ i = 0
  | _ => False
def ch_rt (k kd i j : Nat) : Option (Nat × Nat × Nat) := match kd with
  | 0 => match j with
    | 10 => some (k, 8, 0) | 11 => some (k, 9, 0) | 12 => some (k, 10, 0) | 13 => some (k, 7, 0) | 14 => some (k, 1, 8) | 15 => some (k, 2, 64) | 16 => some (k, 3, 12) | _ => none
  | 3 => match j with
    | 10 => some (k, 4, i) | 11 => some (k, 5, i) | 12 => some (k, 6, i) | _ => none
  | 8 => if j < 8 then some (k, 1, j) else none
  | 9 => if j < 64 then some (k, 2, j) else none
  | 10 => if j < 12 then some (k, 3, j) else none
  | 11 => match j with
    | 0 => some (15, 12, 0) | 1 => some (0, 0, 0) | 2 => some (1, 0, 0) | 3 => some (2, 0, 0) | 4 => some (15, 14, 0) | 5 => some (15, 16, 0) | 6 => some (15, 20, 0) | _ => none
  | 12 => match j with
    | 3 => some (15, 13, 0) | _ => none
  | 14 => match j with
    | 2 => some (15, 15, 0) | _ => none
  | 15 => if j < 12 then some (3 + j, 0, 0) else none
  | 16 => match j with
    | 0 => some (15, 17, 0) | _ => none
  | 17 => match j with
    | 2 => some (15, 18, 0) | 3 => some (15, 19, 0) | _ => none
  | 20 => match j with
    | 0 => some (15, 21, 0) | _ => none
  | _ => none
def ch_Std (E : ch_E) (S : ch_S) : Prop := (∀ k kd i, ch_V k kd i → S.2.1 k kd i) ∧ (∀ k kd i j a, ch_V k kd i → ch_rt k kd i j = some a → S.2.2 k kd i j = some (S.1 a.1 a.2.1 a.2.2)) ∧ True
/-- a reader of texts: its two references -/
def ch_Rd (S : ch_S) (kd net : Nat) : Prop := S.2.1 15 kd 0 ∧ S.2.2 15 kd 0 0 = some (S.1 15 12 0) ∧ S.2.2 15 kd 0 1 = some (S.1 net 0 0)
theorem li_X0 : ∀ w ∈ u_ws RX0 TX0 9, w ∈ ch_GL := by
  intro w hw
  obtain ⟨k, hk, rfl⟩ := List.mem_map.mp hw
  have hk := List.mem_range.mp hk
  rcases (show k = 0 ∨ k = 1 ∨ k = 2 ∨ k = 3 ∨ k = 4 ∨ k = 5 ∨ k = 6 ∨ k = 7 ∨ k = 8 by omega) with rfl | rfl | rfl | rfl | rfl | rfl | rfl | rfl | rfl
  · exact kw_110
  · exact kw_112
  · exact kw_114
  · exact kw_116
  · exact kw_118
  · exact kw_120
  · exact kw_122
  · exact kw_124
  · exact kw_126
theorem li_X1 : ∀ w ∈ u_ws RX1 TX1 3, w ∈ ch_GL := by
  intro w hw
  obtain ⟨k, hk, rfl⟩ := List.mem_map.mp hw
  have hk := List.mem_range.mp hk
  rcases (show k = 0 ∨ k = 1 ∨ k = 2 by omega) with rfl | rfl | rfl
  · exact kw_321
  · exact kw_323
  · exact kw_325
theorem li_X2 : ∀ w ∈ u_ws RX2 TX2 13, w ∈ ch_GL := by
  intro w hw
  obtain ⟨k, hk, rfl⟩ := List.mem_map.mp hw
  have hk := List.mem_range.mp hk
  rcases (show k = 0 ∨ k = 1 ∨ k = 2 ∨ k = 3 ∨ k = 4 ∨ k = 5 ∨ k = 6 ∨ k = 7 ∨ k = 8 ∨ k = 9 ∨ k = 10 ∨ k = 11 ∨ k = 12 by omega) with rfl | rfl | rfl | rfl | rfl | rfl | rfl | rfl | rfl | rfl | rfl | rfl | rfl
  · exact kw_204
  · exact kw_206
  · exact kw_208
  · exact kw_210
  · exact kw_212
  · exact kw_214
  · exact kw_216
  · exact kw_218
  · exact kw_220
  · exact kw_222
  · exact kw_224
  · exact kw_226
  · exact kw_228
theorem li_X3 : ∀ w ∈ u_ws RX3 TX3 17, w ∈ ch_GL := by
  intro w hw
  obtain ⟨k, hk, rfl⟩ := List.mem_map.mp hw
  have hk := List.mem_range.mp hk
  rcases (show k = 0 ∨ k = 1 ∨ k = 2 ∨ k = 3 ∨ k = 4 ∨ k = 5 ∨ k = 6 ∨ k = 7 ∨ k = 8 ∨ k = 9 ∨ k = 10 ∨ k = 11 ∨ k = 12 ∨ k = 13 ∨ k = 14 ∨ k = 15 ∨ k = 16 by omega) with rfl | rfl | rfl | rfl | rfl | rfl | rfl | rfl | rfl | rfl | rfl | rfl | rfl | rfl | rfl | rfl | rfl
  · exact kw_273
  · exact kw_275
  · exact kw_277
  · exact kw_279
  · exact kw_281
  · exact kw_283
  · exact kw_285
  · exact kw_287
  · exact kw_289
  · exact kw_291
  · exact kw_293
  · exact kw_295
  · exact kw_297
  · exact kw_299
  · exact kw_301
  · exact kw_303
  · exact kw_305
theorem li_X4 : ∀ w ∈ u_ws RX4 TX4 2, w ∈ ch_GL := by
  intro w hw
  obtain ⟨k, hk, rfl⟩ := List.mem_map.mp hw
  have hk := List.mem_range.mp hk
  rcases (show k = 0 ∨ k = 1 by omega) with rfl | rfl
  · exact kw_962
  · exact kw_964
theorem li_X6 : ∀ w ∈ u_ws RX6 TX6 4, w ∈ ch_GL := by
  intro w hw
  obtain ⟨k, hk, rfl⟩ := List.mem_map.mp hw
  have hk := List.mem_range.mp hk
  rcases (show k = 0 ∨ k = 1 ∨ k = 2 ∨ k = 3 by omega) with rfl | rfl | rfl | rfl
  · exact kw_346
  · exact kw_348
  · exact kw_350
  · exact kw_352
theorem li_X7 : ∀ w ∈ u_ws RX7 TX7 4, w ∈ ch_GL := by
  intro w hw
  obtain ⟨k, hk, rfl⟩ := List.mem_map.mp hw
  have hk := List.mem_range.mp hk
  rcases (show k = 0 ∨ k = 1 ∨ k = 2 ∨ k = 3 by omega) with rfl | rfl | rfl | rfl
  · exact kw_150
  · exact kw_152
  · exact kw_154
  · exact kw_156
theorem li_X8 : ∀ w ∈ u_ws RX8 TX8 1, w ∈ ch_GL := by
  intro w hw
  obtain ⟨k, hk, rfl⟩ := List.mem_map.mp hw
  have hk := List.mem_range.mp hk
  rcases (show k = 0 by omega) with rfl
  · exact kw_356
theorem li_X9 : ∀ w ∈ u_ws RX9 TX9 1, w ∈ ch_GL := by
  intro w hw
  obtain ⟨k, hk, rfl⟩ := List.mem_map.mp hw
  have hk := List.mem_range.mp hk
  rcases (show k = 0 by omega) with rfl
  · exact kw_366
theorem li_X10 : ∀ w ∈ u_ws RX10 TX10 8, w ∈ ch_GL := by
  intro w hw
  obtain ⟨k, hk, rfl⟩ := List.mem_map.mp hw
  have hk := List.mem_range.mp hk
  rcases (show k = 0 ∨ k = 1 ∨ k = 2 ∨ k = 3 ∨ k = 4 ∨ k = 5 ∨ k = 6 ∨ k = 7 by omega) with rfl | rfl | rfl | rfl | rfl | rfl | rfl | rfl
  · exact kw_50
  · exact kw_52
  · exact kw_54
  · exact kw_56
  · exact kw_58
  · exact kw_60
  · exact kw_62
  · exact kw_64
theorem li_X11 : ∀ w ∈ u_ws RX11 TX11 8, w ∈ ch_GL := by
  intro w hw
  obtain ⟨k, hk, rfl⟩ := List.mem_map.mp hw
  have hk := List.mem_range.mp hk
  rcases (show k = 0 ∨ k = 1 ∨ k = 2 ∨ k = 3 ∨ k = 4 ∨ k = 5 ∨ k = 6 ∨ k = 7 by omega) with rfl | rfl | rfl | rfl | rfl | rfl | rfl | rfl
  · exact kw_377
  · exact kw_379
  · exact kw_381
  · exact kw_383
  · exact kw_385
  · exact kw_387
  · exact kw_389
  · exact kw_391
theorem li_X12 : ∀ w ∈ u_ws RX12 TX12 13, w ∈ ch_GL := by
  intro w hw
  obtain ⟨k, hk, rfl⟩ := List.mem_map.mp hw
  have hk := List.mem_range.mp hk
  rcases (show k = 0 ∨ k = 1 ∨ k = 2 ∨ k = 3 ∨ k = 4 ∨ k = 5 ∨ k = 6 ∨ k = 7 ∨ k = 8 ∨ k = 9 ∨ k = 10 ∨ k = 11 ∨ k = 12 by omega) with rfl | rfl | rfl | rfl | rfl | rfl | rfl | rfl | rfl | rfl | rfl | rfl | rfl
  · exact kw_1071
  · exact kw_1073
  · exact kw_1075
  · exact kw_1077
  · exact kw_1079
  · exact kw_1081
  · exact kw_1083
  · exact kw_1085
  · exact kw_1087
  · exact kw_1089
  · exact kw_1091
  · exact kw_1093
  · exact kw_1095
theorem li_X13 : ∀ w ∈ u_ws RX13 TX13 16, w ∈ ch_GL := by
  intro w hw
  obtain ⟨k, hk, rfl⟩ := List.mem_map.mp hw
  have hk := List.mem_range.mp hk
  rcases (show k = 0 ∨ k = 1 ∨ k = 2 ∨ k = 3 ∨ k = 4 ∨ k = 5 ∨ k = 6 ∨ k = 7 ∨ k = 8 ∨ k = 9 ∨ k = 10 ∨ k = 11 ∨ k = 12 ∨ k = 13 ∨ k = 14 ∨ k = 15 by omega) with rfl | rfl | rfl | rfl | rfl | rfl | rfl | rfl | rfl | rfl | rfl | rfl | rfl | rfl | rfl | rfl
  · exact kw_824
  · exact kw_826
  · exact kw_828
  · exact kw_830
  · exact kw_832
  · exact kw_834
  · exact kw_836
  · exact kw_838
  · exact kw_840
  · exact kw_842
  · exact kw_844
  · exact kw_846
  · exact kw_848
  · exact kw_850
  · exact kw_852
  · exact kw_854
theorem gr_X11_10 {X : ch_X} {E : ch_E} {cc : ByteArray} {nL : Nat} {S : ch_S} {μ : ch_M} {kc ks pc : Nat} {L : List (Nat × Value)} {st : List Value} (h : ch_H X E RX11 cc nL) {k i : Nat} {r : Option Nat} (hv : S.2.1 k 11 i) (hx : S.2.2 k 11 i 0 = r) (hd : decode cc pc = .ok (.getfield 10, 3)) (kk : ch_W X E nL S μ kc ks (pc + 3) L (va_rf r :: st)) : ch_W X E nL S μ kc ks pc L (.ref (S.1 k 11 i) :: st) :=
  ca_getr (ci := 11) (j := 0) h rfl rfl li_X11 rfl hv (by decide) rfl kw_369 hx hd kk
theorem gs_X11_10 {X : ch_X} {E : ch_E} {cc : ByteArray} {nL : Nat} {S : ch_S} {μ : ch_M} {kc ks pc : Nat} {L : List (Nat × Value)} {st : List Value} (h : ch_H X E RX11 cc nL) {k i : Nat} (hs : ch_Std E S) (hv : ch_V k 11 i) (hd : decode cc pc = .ok (.getfield 10, 3)) (kk : ch_W X E nL S μ kc ks (pc + 3) L (.ref (S.1 15 12 0) :: st)) : ch_W X E nL S μ kc ks pc L (.ref (S.1 k 11 i) :: st) :=
  gr_X11_10 h (hs.1 _ _ _ hv) (hs.2.1 k 11 i 0 _ hv rfl) hd kk
theorem gr_X11_19 {X : ch_X} {E : ch_E} {cc : ByteArray} {nL : Nat} {S : ch_S} {μ : ch_M} {kc ks pc : Nat} {L : List (Nat × Value)} {st : List Value} (h : ch_H X E RX11 cc nL) {k i : Nat} {r : Option Nat} (hv : S.2.1 k 11 i) (hx : S.2.2 k 11 i 1 = r) (hd : decode cc pc = .ok (.getfield 19, 3)) (kk : ch_W X E nL S μ kc ks (pc + 3) L (va_rf r :: st)) : ch_W X E nL S μ kc ks pc L (.ref (S.1 k 11 i) :: st) :=
  ca_getr (ci := 11) (j := 1) h rfl rfl li_X11 rfl hv (by decide) rfl kw_370 hx hd kk
theorem gs_X11_19 {X : ch_X} {E : ch_E} {cc : ByteArray} {nL : Nat} {S : ch_S} {μ : ch_M} {kc ks pc : Nat} {L : List (Nat × Value)} {st : List Value} (h : ch_H X E RX11 cc nL) {k i : Nat} (hs : ch_Std E S) (hv : ch_V k 11 i) (hd : decode cc pc = .ok (.getfield 19, 3)) (kk : ch_W X E nL S μ kc ks (pc + 3) L (.ref (S.1 0 0 0) :: st)) : ch_W X E nL S μ kc ks pc L (.ref (S.1 k 11 i) :: st) :=
  gr_X11_19 h (hs.1 _ _ _ hv) (hs.2.1 k 11 i 1 _ hv rfl) hd kk
theorem gr_X11_23 {X : ch_X} {E : ch_E} {cc : ByteArray} {nL : Nat} {S : ch_S} {μ : ch_M} {kc ks pc : Nat} {L : List (Nat × Value)} {st : List Value} (h : ch_H X E RX11 cc nL) {k i : Nat} {r : Option Nat} (hv : S.2.1 k 11 i) (hx : S.2.2 k 11 i 2 = r) (hd : decode cc pc = .ok (.getfield 23, 3)) (kk : ch_W X E nL S μ kc ks (pc + 3) L (va_rf r :: st)) : ch_W X E nL S μ kc ks pc L (.ref (S.1 k 11 i) :: st) :=
  ca_getr (ci := 11) (j := 2) h rfl rfl li_X11 rfl hv (by decide) rfl kw_371 hx hd kk
theorem gs_X11_23 {X : ch_X} {E : ch_E} {cc : ByteArray} {nL : Nat} {S : ch_S} {μ : ch_M} {kc ks pc : Nat} {L : List (Nat × Value)} {st : List Value} (h : ch_H X E RX11 cc nL) {k i : Nat} (hs : ch_Std E S) (hv : ch_V k 11 i) (hd : decode cc pc = .ok (.getfield 23, 3)) (kk : ch_W X E nL S μ kc ks (pc + 3) L (.ref (S.1 1 0 0) :: st)) : ch_W X E nL S μ kc ks pc L (.ref (S.1 k 11 i) :: st) :=
  gr_X11_23 h (hs.1 _ _ _ hv) (hs.2.1 k 11 i 2 _ hv rfl) hd kk
theorem gr_X11_26 {X : ch_X} {E : ch_E} {cc : ByteArray} {nL : Nat} {S : ch_S} {μ : ch_M} {kc ks pc : Nat} {L : List (Nat × Value)} {st : List Value} (h : ch_H X E RX11 cc nL) {k i : Nat} {r : Option Nat} (hv : S.2.1 k 11 i) (hx : S.2.2 k 11 i 3 = r) (hd : decode cc pc = .ok (.getfield 26, 3)) (kk : ch_W X E nL S μ kc ks (pc + 3) L (va_rf r :: st)) : ch_W X E nL S μ kc ks pc L (.ref (S.1 k 11 i) :: st) :=
  ca_getr (ci := 11) (j := 3) h rfl rfl li_X11 rfl hv (by decide) rfl kw_372 hx hd kk
theorem gs_X11_26 {X : ch_X} {E : ch_E} {cc : ByteArray} {nL : Nat} {S : ch_S} {μ : ch_M} {kc ks pc : Nat} {L : List (Nat × Value)} {st : List Value} (h : ch_H X E RX11 cc nL) {k i : Nat} (hs : ch_Std E S) (hv : ch_V k 11 i) (hd : decode cc pc = .ok (.getfield 26, 3)) (kk : ch_W X E nL S μ kc ks (pc + 3) L (.ref (S.1 2 0 0) :: st)) : ch_W X E nL S μ kc ks pc L (.ref (S.1 k 11 i) :: st) :=
  gr_X11_26 h (hs.1 _ _ _ hv) (hs.2.1 k 11 i 3 _ hv rfl) hd kk
theorem gr_X11_32 {X : ch_X} {E : ch_E} {cc : ByteArray} {nL : Nat} {S : ch_S} {μ : ch_M} {kc ks pc : Nat} {L : List (Nat × Value)} {st : List Value} (h : ch_H X E RX11 cc nL) {k i : Nat} {r : Option Nat} (hv : S.2.1 k 11 i) (hx : S.2.2 k 11 i 4 = r) (hd : decode cc pc = .ok (.getfield 32, 3)) (kk : ch_W X E nL S μ kc ks (pc + 3) L (va_rf r :: st)) : ch_W X E nL S μ kc ks pc L (.ref (S.1 k 11 i) :: st) :=
  ca_getr (ci := 11) (j := 4) h rfl rfl li_X11 rfl hv (by decide) rfl kw_373 hx hd kk
theorem gs_X11_32 {X : ch_X} {E : ch_E} {cc : ByteArray} {nL : Nat} {S : ch_S} {μ : ch_M} {kc ks pc : Nat} {L : List (Nat × Value)} {st : List Value} (h : ch_H X E RX11 cc nL) {k i : Nat} (hs : ch_Std E S) (hv : ch_V k 11 i) (hd : decode cc pc = .ok (.getfield 32, 3)) (kk : ch_W X E nL S μ kc ks (pc + 3) L (.ref (S.1 15 14 0) :: st)) : ch_W X E nL S μ kc ks pc L (.ref (S.1 k 11 i) :: st) :=
  gr_X11_32 h (hs.1 _ _ _ hv) (hs.2.1 k 11 i 4 _ hv rfl) hd kk
theorem gr_X11_39 {X : ch_X} {E : ch_E} {cc : ByteArray} {nL : Nat} {S : ch_S} {μ : ch_M} {kc ks pc : Nat} {L : List (Nat × Value)} {st : List Value} (h : ch_H X E RX11 cc nL) {k i : Nat} {r : Option Nat} (hv : S.2.1 k 11 i) (hx : S.2.2 k 11 i 5 = r) (hd : decode cc pc = .ok (.getfield 39, 3)) (kk : ch_W X E nL S μ kc ks (pc + 3) L (va_rf r :: st)) : ch_W X E nL S μ kc ks pc L (.ref (S.1 k 11 i) :: st) :=
  ca_getr (ci := 11) (j := 5) h rfl rfl li_X11 rfl hv (by decide) rfl kw_374 hx hd kk
theorem gs_X11_39 {X : ch_X} {E : ch_E} {cc : ByteArray} {nL : Nat} {S : ch_S} {μ : ch_M} {kc ks pc : Nat} {L : List (Nat × Value)} {st : List Value} (h : ch_H X E RX11 cc nL) {k i : Nat} (hs : ch_Std E S) (hv : ch_V k 11 i) (hd : decode cc pc = .ok (.getfield 39, 3)) (kk : ch_W X E nL S μ kc ks (pc + 3) L (.ref (S.1 15 16 0) :: st)) : ch_W X E nL S μ kc ks pc L (.ref (S.1 k 11 i) :: st) :=
  gr_X11_39 h (hs.1 _ _ _ hv) (hs.2.1 k 11 i 5 _ hv rfl) hd kk
theorem gr_X11_46 {X : ch_X} {E : ch_E} {cc : ByteArray} {nL : Nat} {S : ch_S} {μ : ch_M} {kc ks pc : Nat} {L : List (Nat × Value)} {st : List Value} (h : ch_H X E RX11 cc nL) {k i : Nat} {r : Option Nat} (hv : S.2.1 k 11 i) (hx : S.2.2 k 11 i 6 = r) (hd : decode cc pc = .ok (.getfield 46, 3)) (kk : ch_W X E nL S μ kc ks (pc + 3) L (va_rf r :: st)) : ch_W X E nL S μ kc ks pc L (.ref (S.1 k 11 i) :: st) :=
  ca_getr (ci := 11) (j := 6) h rfl rfl li_X11 rfl hv (by decide) rfl kw_375 hx hd kk
theorem gs_X11_46 {X : ch_X} {E : ch_E} {cc : ByteArray} {nL : Nat} {S : ch_S} {μ : ch_M} {kc ks pc : Nat} {L : List (Nat × Value)} {st : List Value} (h : ch_H X E RX11 cc nL) {k i : Nat} (hs : ch_Std E S) (hv : ch_V k 11 i) (hd : decode cc pc = .ok (.getfield 46, 3)) (kk : ch_W X E nL S μ kc ks (pc + 3) L (.ref (S.1 15 20 0) :: st)) : ch_W X E nL S μ kc ks pc L (.ref (S.1 k 11 i) :: st) :=
  gr_X11_46 h (hs.1 _ _ _ hv) (hs.2.1 k 11 i 6 _ hv rfl) hd kk
theorem gi_X11_50 {X : ch_X} {E : ch_E} {cc : ByteArray} {nL : Nat} {S : ch_S} {μ : ch_M} {kc ks pc : Nat} {L : List (Nat × Value)} {st : List Value} (h : ch_H X E RX11 cc nL) {k i : Nat} (hv : S.2.1 k 11 i) (hd : decode cc pc = .ok (.getfield 50, 3)) (kk : ch_W X E nL S μ kc ks (pc + 3) L (.int (μ k 11 i 7) :: st)) : ch_W X E nL S μ kc ks pc L (.ref (S.1 k 11 i) :: st) :=
  ca_geti (ci := 11) (j := 7) h rfl rfl li_X11 rfl hv (by decide) rfl kw_376 hd kk
theorem pi_X11_50 {X : ch_X} {E : ch_E} {cc : ByteArray} {nL : Nat} {S : ch_S} {μ : ch_M} {kc ks pc : Nat} {L : List (Nat × Value)} {st : List Value} (h : ch_H X E RX11 cc nL) {k i : Nat} {x : Int32} (hv : S.2.1 k 11 i) (hx : x = 0 ∨ x = 1) (hd : decode cc pc = .ok (.putfield 50, 3)) (kk : ch_W X E nL S (ch_st μ k 11 i 7 x) kc ks (pc + 3) L st) : ch_W X E nL S μ kc ks pc L (.int x :: .ref (S.1 k 11 i) :: st) :=
  ca_puti (ci := 11) (j := 7) (ty := .boolean) h rfl rfl li_X11 tyX11 tyX11_ok nmX11 rfl hv (by decide) rfl kw_376 rfl (by decide +kernel) (by rcases hx with rfl | rfl <;> decide) (by rcases hx with rfl | rfl <;> decide) (fun _ => hx) hd kk
theorem gi_X11_54 {X : ch_X} {E : ch_E} {cc : ByteArray} {nL : Nat} {S : ch_S} {μ : ch_M} {kc ks pc : Nat} {L : List (Nat × Value)} {st : List Value} (h : ch_H X E RX11 cc nL) {k i : Nat} (hv : S.2.1 k 12 i) (hd : decode cc pc = .ok (.getfield 54, 3)) (kk : ch_W X E nL S μ kc ks (pc + 3) L (.int (μ k 12 i 0) :: st)) : ch_W X E nL S μ kc ks pc L (.ref (S.1 k 12 i) :: st) :=
  ca_geti (ci := 10) (j := 0) h rfl rfl li_X10 rfl hv (by decide) rfl kw_40 hd kk
theorem pi_X11_54 {X : ch_X} {E : ch_E} {cc : ByteArray} {nL : Nat} {S : ch_S} {μ : ch_M} {kc ks pc : Nat} {L : List (Nat × Value)} {st : List Value} (h : ch_H X E RX11 cc nL) {k i : Nat} {x : Int32} (hv : S.2.1 k 12 i) (hd : decode cc pc = .ok (.putfield 54, 3)) (kk : ch_W X E nL S (ch_st μ k 12 i 0 x) kc ks (pc + 3) L st) : ch_W X E nL S μ kc ks pc L (.int x :: .ref (S.1 k 12 i) :: st) :=
  ca_puti (ci := 10) (j := 0) (ty := .int) h rfl rfl li_X10 tyX10 tyX10_ok nmX10 rfl hv (by decide) rfl kw_40 rfl (by decide +kernel) rfl rfl (fun z => absurd z (by decide)) hd kk
theorem gi_X11_80 {X : ch_X} {E : ch_E} {cc : ByteArray} {nL : Nat} {S : ch_S} {μ : ch_M} {kc ks pc : Nat} {L : List (Nat × Value)} {st : List Value} (h : ch_H X E RX11 cc nL) {k i : Nat} (hv : S.2.1 k 12 i) (hd : decode cc pc = .ok (.getfield 80, 3)) (kk : ch_W X E nL S μ kc ks (pc + 3) L (.int (μ k 12 i 1) :: st)) : ch_W X E nL S μ kc ks pc L (.ref (S.1 k 12 i) :: st) :=
  ca_geti (ci := 10) (j := 1) h rfl rfl li_X10 rfl hv (by decide) rfl kw_43 hd kk
theorem pi_X11_80 {X : ch_X} {E : ch_E} {cc : ByteArray} {nL : Nat} {S : ch_S} {μ : ch_M} {kc ks pc : Nat} {L : List (Nat × Value)} {st : List Value} (h : ch_H X E RX11 cc nL) {k i : Nat} {x : Int32} (hv : S.2.1 k 12 i) (hd : decode cc pc = .ok (.putfield 80, 3)) (kk : ch_W X E nL S (ch_st μ k 12 i 1 x) kc ks (pc + 3) L st) : ch_W X E nL S μ kc ks pc L (.int x :: .ref (S.1 k 12 i) :: st) :=
  ca_puti (ci := 10) (j := 1) (ty := .int) h rfl rfl li_X10 tyX10 tyX10_ok nmX10 rfl hv (by decide) rfl kw_43 rfl (by decide +kernel) rfl rfl (fun z => absurd z (by decide)) hd kk
theorem gi_X11_90 {X : ch_X} {E : ch_E} {cc : ByteArray} {nL : Nat} {S : ch_S} {μ : ch_M} {kc ks pc : Nat} {L : List (Nat × Value)} {st : List Value} (h : ch_H X E RX11 cc nL) {k i : Nat} (hv : S.2.1 k 0 i) (hd : decode cc pc = .ok (.getfield 90, 3)) (kk : ch_W X E nL S μ kc ks (pc + 3) L (.int (μ k 0 i 0) :: st)) : ch_W X E nL S μ kc ks pc L (.ref (S.1 k 0 i) :: st) :=
  ca_geti (ci := 3) (j := 0) h rfl rfl li_X3 rfl hv (by decide) rfl kw_236 hd kk
theorem pi_X11_90 {X : ch_X} {E : ch_E} {cc : ByteArray} {nL : Nat} {S : ch_S} {μ : ch_M} {kc ks pc : Nat} {L : List (Nat × Value)} {st : List Value} (h : ch_H X E RX11 cc nL) {k i : Nat} {x : Int32} (hv : S.2.1 k 0 i) (hd : decode cc pc = .ok (.putfield 90, 3)) (kk : ch_W X E nL S (ch_st μ k 0 i 0 x) kc ks (pc + 3) L st) : ch_W X E nL S μ kc ks pc L (.int x :: .ref (S.1 k 0 i) :: st) :=
  ca_puti (ci := 3) (j := 0) (ty := .int) h rfl rfl li_X3 tyX3 tyX3_ok nmX3 rfl hv (by decide) rfl kw_236 rfl (by decide +kernel) rfl rfl (fun z => absurd z (by decide)) hd kk
theorem gi_X11_99 {X : ch_X} {E : ch_E} {cc : ByteArray} {nL : Nat} {S : ch_S} {μ : ch_M} {kc ks pc : Nat} {L : List (Nat × Value)} {st : List Value} (h : ch_H X E RX11 cc nL) {k i : Nat} (hv : S.2.1 k 0 i) (hd : decode cc pc = .ok (.getfield 99, 3)) (kk : ch_W X E nL S μ kc ks (pc + 3) L (.int (μ k 0 i 2) :: st)) : ch_W X E nL S μ kc ks pc L (.ref (S.1 k 0 i) :: st) :=
  ca_geti (ci := 3) (j := 2) h rfl rfl li_X3 rfl hv (by decide) rfl kw_243 hd kk
theorem pi_X11_99 {X : ch_X} {E : ch_E} {cc : ByteArray} {nL : Nat} {S : ch_S} {μ : ch_M} {kc ks pc : Nat} {L : List (Nat × Value)} {st : List Value} (h : ch_H X E RX11 cc nL) {k i : Nat} {x : Int32} (hv : S.2.1 k 0 i) (hd : decode cc pc = .ok (.putfield 99, 3)) (kk : ch_W X E nL S (ch_st μ k 0 i 2 x) kc ks (pc + 3) L st) : ch_W X E nL S μ kc ks pc L (.int x :: .ref (S.1 k 0 i) :: st) :=
  ca_puti (ci := 3) (j := 2) (ty := .int) h rfl rfl li_X3 tyX3 tyX3_ok nmX3 rfl hv (by decide) rfl kw_243 rfl (by decide +kernel) rfl rfl (fun z => absurd z (by decide)) hd kk
theorem gi_X11_102 {X : ch_X} {E : ch_E} {cc : ByteArray} {nL : Nat} {S : ch_S} {μ : ch_M} {kc ks pc : Nat} {L : List (Nat × Value)} {st : List Value} (h : ch_H X E RX11 cc nL) {k i : Nat} (hv : S.2.1 k 0 i) (hd : decode cc pc = .ok (.getfield 102, 3)) (kk : ch_W X E nL S μ kc ks (pc + 3) L (.int (μ k 0 i 3) :: st)) : ch_W X E nL S μ kc ks pc L (.ref (S.1 k 0 i) :: st) :=
  ca_geti (ci := 3) (j := 3) h rfl rfl li_X3 rfl hv (by decide) rfl kw_247 hd kk
theorem pi_X11_102 {X : ch_X} {E : ch_E} {cc : ByteArray} {nL : Nat} {S : ch_S} {μ : ch_M} {kc ks pc : Nat} {L : List (Nat × Value)} {st : List Value} (h : ch_H X E RX11 cc nL) {k i : Nat} {x : Int32} (hv : S.2.1 k 0 i) (hd : decode cc pc = .ok (.putfield 102, 3)) (kk : ch_W X E nL S (ch_st μ k 0 i 3 x) kc ks (pc + 3) L st) : ch_W X E nL S μ kc ks pc L (.int x :: .ref (S.1 k 0 i) :: st) :=
  ca_puti (ci := 3) (j := 3) (ty := .int) h rfl rfl li_X3 tyX3 tyX3_ok nmX3 rfl hv (by decide) rfl kw_247 rfl (by decide +kernel) rfl rfl (fun z => absurd z (by decide)) hd kk
theorem gi_X11_112 {X : ch_X} {E : ch_E} {cc : ByteArray} {nL : Nat} {S : ch_S} {μ : ch_M} {kc ks pc : Nat} {L : List (Nat × Value)} {st : List Value} (h : ch_H X E RX11 cc nL) {k i : Nat} (hv : S.2.1 k 2 i) (hd : decode cc pc = .ok (.getfield 112, 3)) (kk : ch_W X E nL S μ kc ks (pc + 3) L (.int (μ k 2 i 0) :: st)) : ch_W X E nL S μ kc ks pc L (.ref (S.1 k 2 i) :: st) :=
  ca_geti (ci := 7) (j := 0) h rfl rfl li_X7 rfl hv (by decide) rfl kw_138 hd kk
theorem pi_X11_112 {X : ch_X} {E : ch_E} {cc : ByteArray} {nL : Nat} {S : ch_S} {μ : ch_M} {kc ks pc : Nat} {L : List (Nat × Value)} {st : List Value} (h : ch_H X E RX11 cc nL) {k i : Nat} {x : Int32} (hv : S.2.1 k 2 i) (hx : x = 0 ∨ x = 1) (hd : decode cc pc = .ok (.putfield 112, 3)) (kk : ch_W X E nL S (ch_st μ k 2 i 0 x) kc ks (pc + 3) L st) : ch_W X E nL S μ kc ks pc L (.int x :: .ref (S.1 k 2 i) :: st) :=
  ca_puti (ci := 7) (j := 0) (ty := .boolean) h rfl rfl li_X7 tyX7 tyX7_ok nmX7 rfl hv (by decide) rfl kw_138 rfl (by decide +kernel) (by rcases hx with rfl | rfl <;> decide) (by rcases hx with rfl | rfl <;> decide) (fun _ => hx) hd kk
theorem gi_X11_117 {X : ch_X} {E : ch_E} {cc : ByteArray} {nL : Nat} {S : ch_S} {μ : ch_M} {kc ks pc : Nat} {L : List (Nat × Value)} {st : List Value} (h : ch_H X E RX11 cc nL) {k i : Nat} (hv : S.2.1 k 2 i) (hd : decode cc pc = .ok (.getfield 117, 3)) (kk : ch_W X E nL S μ kc ks (pc + 3) L (.int (μ k 2 i 1) :: st)) : ch_W X E nL S μ kc ks pc L (.ref (S.1 k 2 i) :: st) :=
  ca_geti (ci := 7) (j := 1) h rfl rfl li_X7 rfl hv (by decide) rfl kw_143 hd kk
theorem pi_X11_117 {X : ch_X} {E : ch_E} {cc : ByteArray} {nL : Nat} {S : ch_S} {μ : ch_M} {kc ks pc : Nat} {L : List (Nat × Value)} {st : List Value} (h : ch_H X E RX11 cc nL) {k i : Nat} {x : Int32} (hv : S.2.1 k 2 i) (hd : decode cc pc = .ok (.putfield 117, 3)) (kk : ch_W X E nL S (ch_st μ k 2 i 1 x) kc ks (pc + 3) L st) : ch_W X E nL S μ kc ks pc L (.int x :: .ref (S.1 k 2 i) :: st) :=
  ca_puti (ci := 7) (j := 1) (ty := .int) h rfl rfl li_X7 tyX7 tyX7_ok nmX7 rfl hv (by decide) rfl kw_143 rfl (by decide +kernel) rfl rfl (fun z => absurd z (by decide)) hd kk
theorem gi_X11_156 {X : ch_X} {E : ch_E} {cc : ByteArray} {nL : Nat} {S : ch_S} {μ : ch_M} {kc ks pc : Nat} {L : List (Nat × Value)} {st : List Value} (h : ch_H X E RX11 cc nL) {k i : Nat} (hv : S.2.1 k 3 i) (hd : decode cc pc = .ok (.getfield 156, 3)) (kk : ch_W X E nL S μ kc ks (pc + 3) L (.int (μ k 3 i 2) :: st)) : ch_W X E nL S μ kc ks pc L (.ref (S.1 k 3 i) :: st) :=
  ca_geti (ci := 2) (j := 2) h rfl rfl li_X2 rfl hv (by decide) rfl kw_174 hd kk
theorem pi_X11_156 {X : ch_X} {E : ch_E} {cc : ByteArray} {nL : Nat} {S : ch_S} {μ : ch_M} {kc ks pc : Nat} {L : List (Nat × Value)} {st : List Value} (h : ch_H X E RX11 cc nL) {k i : Nat} {x : Int32} (hv : S.2.1 k 3 i) (hd : decode cc pc = .ok (.putfield 156, 3)) (kk : ch_W X E nL S (ch_st μ k 3 i 2 x) kc ks (pc + 3) L st) : ch_W X E nL S μ kc ks pc L (.int x :: .ref (S.1 k 3 i) :: st) :=
  ca_puti (ci := 2) (j := 2) (ty := .int) h rfl rfl li_X2 tyX2 tyX2_ok nmX2 rfl hv (by decide) rfl kw_174 rfl (by decide +kernel) rfl rfl (fun z => absurd z (by decide)) hd kk
theorem gi_X11_159 {X : ch_X} {E : ch_E} {cc : ByteArray} {nL : Nat} {S : ch_S} {μ : ch_M} {kc ks pc : Nat} {L : List (Nat × Value)} {st : List Value} (h : ch_H X E RX11 cc nL) {k i : Nat} (hv : S.2.1 k 3 i) (hd : decode cc pc = .ok (.getfield 159, 3)) (kk : ch_W X E nL S μ kc ks (pc + 3) L (.int (μ k 3 i 3) :: st)) : ch_W X E nL S μ kc ks pc L (.ref (S.1 k 3 i) :: st) :=
  ca_geti (ci := 2) (j := 3) h rfl rfl li_X2 rfl hv (by decide) rfl kw_177 hd kk
theorem pi_X11_159 {X : ch_X} {E : ch_E} {cc : ByteArray} {nL : Nat} {S : ch_S} {μ : ch_M} {kc ks pc : Nat} {L : List (Nat × Value)} {st : List Value} (h : ch_H X E RX11 cc nL) {k i : Nat} {x : Int32} (hv : S.2.1 k 3 i) (hd : decode cc pc = .ok (.putfield 159, 3)) (kk : ch_W X E nL S (ch_st μ k 3 i 3 x) kc ks (pc + 3) L st) : ch_W X E nL S μ kc ks pc L (.int x :: .ref (S.1 k 3 i) :: st) :=
  ca_puti (ci := 2) (j := 3) (ty := .int) h rfl rfl li_X2 tyX2 tyX2_ok nmX2 rfl hv (by decide) rfl kw_177 rfl (by decide +kernel) rfl rfl (fun z => absurd z (by decide)) hd kk
theorem gi_X11_162 {X : ch_X} {E : ch_E} {cc : ByteArray} {nL : Nat} {S : ch_S} {μ : ch_M} {kc ks pc : Nat} {L : List (Nat × Value)} {st : List Value} (h : ch_H X E RX11 cc nL) {k i : Nat} (hv : S.2.1 k 3 i) (hd : decode cc pc = .ok (.getfield 162, 3)) (kk : ch_W X E nL S μ kc ks (pc + 3) L (.int (μ k 3 i 4) :: st)) : ch_W X E nL S μ kc ks pc L (.ref (S.1 k 3 i) :: st) :=
  ca_geti (ci := 2) (j := 4) h rfl rfl li_X2 rfl hv (by decide) rfl kw_181 hd kk
theorem pi_X11_162 {X : ch_X} {E : ch_E} {cc : ByteArray} {nL : Nat} {S : ch_S} {μ : ch_M} {kc ks pc : Nat} {L : List (Nat × Value)} {st : List Value} (h : ch_H X E RX11 cc nL) {k i : Nat} {x : Int32} (hv : S.2.1 k 3 i) (hd : decode cc pc = .ok (.putfield 162, 3)) (kk : ch_W X E nL S (ch_st μ k 3 i 4 x) kc ks (pc + 3) L st) : ch_W X E nL S μ kc ks pc L (.int x :: .ref (S.1 k 3 i) :: st) :=
  ca_puti (ci := 2) (j := 4) (ty := .int) h rfl rfl li_X2 tyX2 tyX2_ok nmX2 rfl hv (by decide) rfl kw_181 rfl (by decide +kernel) rfl rfl (fun z => absurd z (by decide)) hd kk
theorem gi_X11_165 {X : ch_X} {E : ch_E} {cc : ByteArray} {nL : Nat} {S : ch_S} {μ : ch_M} {kc ks pc : Nat} {L : List (Nat × Value)} {st : List Value} (h : ch_H X E RX11 cc nL) {k i : Nat} (hv : S.2.1 k 3 i) (hd : decode cc pc = .ok (.getfield 165, 3)) (kk : ch_W X E nL S μ kc ks (pc + 3) L (.int (μ k 3 i 0) :: st)) : ch_W X E nL S μ kc ks pc L (.ref (S.1 k 3 i) :: st) :=
  ca_geti (ci := 2) (j := 0) h rfl rfl li_X2 rfl hv (by decide) rfl kw_166 hd kk
theorem pi_X11_165 {X : ch_X} {E : ch_E} {cc : ByteArray} {nL : Nat} {S : ch_S} {μ : ch_M} {kc ks pc : Nat} {L : List (Nat × Value)} {st : List Value} (h : ch_H X E RX11 cc nL) {k i : Nat} {x : Int32} (hv : S.2.1 k 3 i) (hd : decode cc pc = .ok (.putfield 165, 3)) (kk : ch_W X E nL S (ch_st μ k 3 i 0 x) kc ks (pc + 3) L st) : ch_W X E nL S μ kc ks pc L (.int x :: .ref (S.1 k 3 i) :: st) :=
  ca_puti (ci := 2) (j := 0) (ty := .int) h rfl rfl li_X2 tyX2 tyX2_ok nmX2 rfl hv (by decide) rfl kw_166 rfl (by decide +kernel) rfl rfl (fun z => absurd z (by decide)) hd kk
theorem gi_X11_168 {X : ch_X} {E : ch_E} {cc : ByteArray} {nL : Nat} {S : ch_S} {μ : ch_M} {kc ks pc : Nat} {L : List (Nat × Value)} {st : List Value} (h : ch_H X E RX11 cc nL) {k i : Nat} (hv : S.2.1 k 3 i) (hd : decode cc pc = .ok (.getfield 168, 3)) (kk : ch_W X E nL S μ kc ks (pc + 3) L (.int (μ k 3 i 1) :: st)) : ch_W X E nL S μ kc ks pc L (.ref (S.1 k 3 i) :: st) :=
  ca_geti (ci := 2) (j := 1) h rfl rfl li_X2 rfl hv (by decide) rfl kw_170 hd kk
theorem pi_X11_168 {X : ch_X} {E : ch_E} {cc : ByteArray} {nL : Nat} {S : ch_S} {μ : ch_M} {kc ks pc : Nat} {L : List (Nat × Value)} {st : List Value} (h : ch_H X E RX11 cc nL) {k i : Nat} {x : Int32} (hv : S.2.1 k 3 i) (hd : decode cc pc = .ok (.putfield 168, 3)) (kk : ch_W X E nL S (ch_st μ k 3 i 1 x) kc ks (pc + 3) L st) : ch_W X E nL S μ kc ks pc L (.int x :: .ref (S.1 k 3 i) :: st) :=
  ca_puti (ci := 2) (j := 1) (ty := .int) h rfl rfl li_X2 tyX2 tyX2_ok nmX2 rfl hv (by decide) rfl kw_170 rfl (by decide +kernel) rfl rfl (fun z => absurd z (by decide)) hd kk
theorem gi_X11_190 {X : ch_X} {E : ch_E} {cc : ByteArray} {nL : Nat} {S : ch_S} {μ : ch_M} {kc ks pc : Nat} {L : List (Nat × Value)} {st : List Value} (h : ch_H X E RX11 cc nL) {k i : Nat} (hv : S.2.1 k 3 i) (hd : decode cc pc = .ok (.getfield 190, 3)) (kk : ch_W X E nL S μ kc ks (pc + 3) L (.int (μ k 3 i 5) :: st)) : ch_W X E nL S μ kc ks pc L (.ref (S.1 k 3 i) :: st) :=
  ca_geti (ci := 2) (j := 5) h rfl rfl li_X2 rfl hv (by decide) rfl kw_186 hd kk
theorem pi_X11_190 {X : ch_X} {E : ch_E} {cc : ByteArray} {nL : Nat} {S : ch_S} {μ : ch_M} {kc ks pc : Nat} {L : List (Nat × Value)} {st : List Value} (h : ch_H X E RX11 cc nL) {k i : Nat} {x : Int32} (hv : S.2.1 k 3 i) (hd : decode cc pc = .ok (.putfield 190, 3)) (kk : ch_W X E nL S (ch_st μ k 3 i 5 x) kc ks (pc + 3) L st) : ch_W X E nL S μ kc ks pc L (.int x :: .ref (S.1 k 3 i) :: st) :=
  ca_puti (ci := 2) (j := 5) (ty := .int) h rfl rfl li_X2 tyX2 tyX2_ok nmX2 rfl hv (by decide) rfl kw_186 rfl (by decide +kernel) rfl rfl (fun z => absurd z (by decide)) hd kk
theorem gi_X11_193 {X : ch_X} {E : ch_E} {cc : ByteArray} {nL : Nat} {S : ch_S} {μ : ch_M} {kc ks pc : Nat} {L : List (Nat × Value)} {st : List Value} (h : ch_H X E RX11 cc nL) {k i : Nat} (hv : S.2.1 k 3 i) (hd : decode cc pc = .ok (.getfield 193, 3)) (kk : ch_W X E nL S μ kc ks (pc + 3) L (.int (μ k 3 i 6) :: st)) : ch_W X E nL S μ kc ks pc L (.ref (S.1 k 3 i) :: st) :=
  ca_geti (ci := 2) (j := 6) h rfl rfl li_X2 rfl hv (by decide) rfl kw_190 hd kk
theorem pi_X11_193 {X : ch_X} {E : ch_E} {cc : ByteArray} {nL : Nat} {S : ch_S} {μ : ch_M} {kc ks pc : Nat} {L : List (Nat × Value)} {st : List Value} (h : ch_H X E RX11 cc nL) {k i : Nat} {x : Int32} (hv : S.2.1 k 3 i) (hd : decode cc pc = .ok (.putfield 193, 3)) (kk : ch_W X E nL S (ch_st μ k 3 i 6 x) kc ks (pc + 3) L st) : ch_W X E nL S μ kc ks pc L (.int x :: .ref (S.1 k 3 i) :: st) :=
  ca_puti (ci := 2) (j := 6) (ty := .int) h rfl rfl li_X2 tyX2 tyX2_ok nmX2 rfl hv (by decide) rfl kw_190 rfl (by decide +kernel) rfl rfl (fun z => absurd z (by decide)) hd kk
theorem gi_X11_196 {X : ch_X} {E : ch_E} {cc : ByteArray} {nL : Nat} {S : ch_S} {μ : ch_M} {kc ks pc : Nat} {L : List (Nat × Value)} {st : List Value} (h : ch_H X E RX11 cc nL) {k i : Nat} (hv : S.2.1 k 3 i) (hd : decode cc pc = .ok (.getfield 196, 3)) (kk : ch_W X E nL S μ kc ks (pc + 3) L (.int (μ k 3 i 8) :: st)) : ch_W X E nL S μ kc ks pc L (.ref (S.1 k 3 i) :: st) :=
  ca_geti (ci := 2) (j := 8) h rfl rfl li_X2 rfl hv (by decide) rfl kw_197 hd kk
theorem pi_X11_196 {X : ch_X} {E : ch_E} {cc : ByteArray} {nL : Nat} {S : ch_S} {μ : ch_M} {kc ks pc : Nat} {L : List (Nat × Value)} {st : List Value} (h : ch_H X E RX11 cc nL) {k i : Nat} {x : Int32} (hv : S.2.1 k 3 i) (hd : decode cc pc = .ok (.putfield 196, 3)) (kk : ch_W X E nL S (ch_st μ k 3 i 8 x) kc ks (pc + 3) L st) : ch_W X E nL S μ kc ks pc L (.int x :: .ref (S.1 k 3 i) :: st) :=
  ca_puti (ci := 2) (j := 8) (ty := .int) h rfl rfl li_X2 tyX2 tyX2_ok nmX2 rfl hv (by decide) rfl kw_197 rfl (by decide +kernel) rfl rfl (fun z => absurd z (by decide)) hd kk
theorem gi_X11_225 {X : ch_X} {E : ch_E} {cc : ByteArray} {nL : Nat} {S : ch_S} {μ : ch_M} {kc ks pc : Nat} {L : List (Nat × Value)} {st : List Value} (h : ch_H X E RX11 cc nL) {k i : Nat} (hv : S.2.1 k 2 i) (hd : decode cc pc = .ok (.getfield 225, 3)) (kk : ch_W X E nL S μ kc ks (pc + 3) L (.int (μ k 2 i 2) :: st)) : ch_W X E nL S μ kc ks pc L (.ref (S.1 k 2 i) :: st) :=
  ca_geti (ci := 7) (j := 2) h rfl rfl li_X7 rfl hv (by decide) rfl kw_146 hd kk
theorem pi_X11_225 {X : ch_X} {E : ch_E} {cc : ByteArray} {nL : Nat} {S : ch_S} {μ : ch_M} {kc ks pc : Nat} {L : List (Nat × Value)} {st : List Value} (h : ch_H X E RX11 cc nL) {k i : Nat} {x : Int32} (hv : S.2.1 k 2 i) (hd : decode cc pc = .ok (.putfield 225, 3)) (kk : ch_W X E nL S (ch_st μ k 2 i 2 x) kc ks (pc + 3) L st) : ch_W X E nL S μ kc ks pc L (.int x :: .ref (S.1 k 2 i) :: st) :=
  ca_puti (ci := 7) (j := 2) (ty := .int) h rfl rfl li_X7 tyX7 tyX7_ok nmX7 rfl hv (by decide) rfl kw_146 rfl (by decide +kernel) rfl rfl (fun z => absurd z (by decide)) hd kk
theorem gi_X11_228 {X : ch_X} {E : ch_E} {cc : ByteArray} {nL : Nat} {S : ch_S} {μ : ch_M} {kc ks pc : Nat} {L : List (Nat × Value)} {st : List Value} (h : ch_H X E RX11 cc nL) {k i : Nat} (hv : S.2.1 k 2 i) (hd : decode cc pc = .ok (.getfield 228, 3)) (kk : ch_W X E nL S μ kc ks (pc + 3) L (.int (μ k 2 i 3) :: st)) : ch_W X E nL S μ kc ks pc L (.ref (S.1 k 2 i) :: st) :=
  ca_geti (ci := 7) (j := 3) h rfl rfl li_X7 rfl hv (by decide) rfl kw_149 hd kk
theorem pi_X11_228 {X : ch_X} {E : ch_E} {cc : ByteArray} {nL : Nat} {S : ch_S} {μ : ch_M} {kc ks pc : Nat} {L : List (Nat × Value)} {st : List Value} (h : ch_H X E RX11 cc nL) {k i : Nat} {x : Int32} (hv : S.2.1 k 2 i) (hd : decode cc pc = .ok (.putfield 228, 3)) (kk : ch_W X E nL S (ch_st μ k 2 i 3 x) kc ks (pc + 3) L st) : ch_W X E nL S μ kc ks pc L (.int x :: .ref (S.1 k 2 i) :: st) :=
  ca_puti (ci := 7) (j := 3) (ty := .int) h rfl rfl li_X7 tyX7 tyX7_ok nmX7 rfl hv (by decide) rfl kw_149 rfl (by decide +kernel) rfl rfl (fun z => absurd z (by decide)) hd kk
theorem gi_X11_231 {X : ch_X} {E : ch_E} {cc : ByteArray} {nL : Nat} {S : ch_S} {μ : ch_M} {kc ks pc : Nat} {L : List (Nat × Value)} {st : List Value} (h : ch_H X E RX11 cc nL) {k i : Nat} (hv : S.2.1 k 1 i) (hd : decode cc pc = .ok (.getfield 231, 3)) (kk : ch_W X E nL S μ kc ks (pc + 3) L (.int (μ k 1 i 8) :: st)) : ch_W X E nL S μ kc ks pc L (.ref (S.1 k 1 i) :: st) :=
  ca_geti (ci := 0) (j := 8) h rfl rfl li_X0 rfl hv (by decide) rfl kw_109 hd kk
theorem pi_X11_231 {X : ch_X} {E : ch_E} {cc : ByteArray} {nL : Nat} {S : ch_S} {μ : ch_M} {kc ks pc : Nat} {L : List (Nat × Value)} {st : List Value} (h : ch_H X E RX11 cc nL) {k i : Nat} {x : Int32} (hv : S.2.1 k 1 i) (hd : decode cc pc = .ok (.putfield 231, 3)) (kk : ch_W X E nL S (ch_st μ k 1 i 8 x) kc ks (pc + 3) L st) : ch_W X E nL S μ kc ks pc L (.int x :: .ref (S.1 k 1 i) :: st) :=
  ca_puti (ci := 0) (j := 8) (ty := .int) h rfl rfl li_X0 tyX0 tyX0_ok nmX0 rfl hv (by decide) rfl kw_109 rfl (by decide +kernel) rfl rfl (fun z => absurd z (by decide)) hd kk
theorem gi_X11_234 {X : ch_X} {E : ch_E} {cc : ByteArray} {nL : Nat} {S : ch_S} {μ : ch_M} {kc ks pc : Nat} {L : List (Nat × Value)} {st : List Value} (h : ch_H X E RX11 cc nL) {k i : Nat} (hv : S.2.1 k 14 i) (hd : decode cc pc = .ok (.getfield 234, 3)) (kk : ch_W X E nL S μ kc ks (pc + 3) L (.int (μ k 14 i 0) :: st)) : ch_W X E nL S μ kc ks pc L (.ref (S.1 k 14 i) :: st) :=
  ca_geti (ci := 1) (j := 0) h rfl rfl li_X1 rfl hv (by decide) rfl kw_318 hd kk
theorem pi_X11_234 {X : ch_X} {E : ch_E} {cc : ByteArray} {nL : Nat} {S : ch_S} {μ : ch_M} {kc ks pc : Nat} {L : List (Nat × Value)} {st : List Value} (h : ch_H X E RX11 cc nL) {k i : Nat} {x : Int32} (hv : S.2.1 k 14 i) (hd : decode cc pc = .ok (.putfield 234, 3)) (kk : ch_W X E nL S (ch_st μ k 14 i 0 x) kc ks (pc + 3) L st) : ch_W X E nL S μ kc ks pc L (.int x :: .ref (S.1 k 14 i) :: st) :=
  ca_puti (ci := 1) (j := 0) (ty := .int) h rfl rfl li_X1 tyX1 tyX1_ok nmX1 rfl hv (by decide) rfl kw_318 rfl (by decide +kernel) rfl rfl (fun z => absurd z (by decide)) hd kk
theorem gi_X0_7 {X : ch_X} {E : ch_E} {cc : ByteArray} {nL : Nat} {S : ch_S} {μ : ch_M} {kc ks pc : Nat} {L : List (Nat × Value)} {st : List Value} (h : ch_H X E RX0 cc nL) {k i : Nat} (hv : S.2.1 k 1 i) (hd : decode cc pc = .ok (.getfield 7, 3)) (kk : ch_W X E nL S μ kc ks (pc + 3) L (.int (μ k 1 i 0) :: st)) : ch_W X E nL S μ kc ks pc L (.ref (S.1 k 1 i) :: st) :=
  ca_geti (ci := 0) (j := 0) h rfl rfl li_X0 rfl hv (by decide) rfl kw_85 hd kk
theorem pi_X0_7 {X : ch_X} {E : ch_E} {cc : ByteArray} {nL : Nat} {S : ch_S} {μ : ch_M} {kc ks pc : Nat} {L : List (Nat × Value)} {st : List Value} (h : ch_H X E RX0 cc nL) {k i : Nat} {x : Int32} (hv : S.2.1 k 1 i) (hd : decode cc pc = .ok (.putfield 7, 3)) (kk : ch_W X E nL S (ch_st μ k 1 i 0 x) kc ks (pc + 3) L st) : ch_W X E nL S μ kc ks pc L (.int x :: .ref (S.1 k 1 i) :: st) :=
  ca_puti (ci := 0) (j := 0) (ty := .int) h rfl rfl li_X0 tyX0 tyX0_ok nmX0 rfl hv (by decide) rfl kw_85 rfl (by decide +kernel) rfl rfl (fun z => absurd z (by decide)) hd kk
theorem gi_X0_19 {X : ch_X} {E : ch_E} {cc : ByteArray} {nL : Nat} {S : ch_S} {μ : ch_M} {kc ks pc : Nat} {L : List (Nat × Value)} {st : List Value} (h : ch_H X E RX0 cc nL) {k i : Nat} (hv : S.2.1 k 1 i) (hd : decode cc pc = .ok (.getfield 19, 3)) (kk : ch_W X E nL S μ kc ks (pc + 3) L (.int (μ k 1 i 1) :: st)) : ch_W X E nL S μ kc ks pc L (.ref (S.1 k 1 i) :: st) :=
  ca_geti (ci := 0) (j := 1) h rfl rfl li_X0 rfl hv (by decide) rfl kw_87 hd kk
theorem pi_X0_19 {X : ch_X} {E : ch_E} {cc : ByteArray} {nL : Nat} {S : ch_S} {μ : ch_M} {kc ks pc : Nat} {L : List (Nat × Value)} {st : List Value} (h : ch_H X E RX0 cc nL) {k i : Nat} {x : Int32} (hv : S.2.1 k 1 i) (hd : decode cc pc = .ok (.putfield 19, 3)) (kk : ch_W X E nL S (ch_st μ k 1 i 1 x) kc ks (pc + 3) L st) : ch_W X E nL S μ kc ks pc L (.int x :: .ref (S.1 k 1 i) :: st) :=
  ca_puti (ci := 0) (j := 1) (ty := .int) h rfl rfl li_X0 tyX0 tyX0_ok nmX0 rfl hv (by decide) rfl kw_87 rfl (by decide +kernel) rfl rfl (fun z => absurd z (by decide)) hd kk
theorem gi_X0_22 {X : ch_X} {E : ch_E} {cc : ByteArray} {nL : Nat} {S : ch_S} {μ : ch_M} {kc ks pc : Nat} {L : List (Nat × Value)} {st : List Value} (h : ch_H X E RX0 cc nL) {k i : Nat} (hv : S.2.1 k 1 i) (hd : decode cc pc = .ok (.getfield 22, 3)) (kk : ch_W X E nL S μ kc ks (pc + 3) L (.int (μ k 1 i 2) :: st)) : ch_W X E nL S μ kc ks pc L (.ref (S.1 k 1 i) :: st) :=
  ca_geti (ci := 0) (j := 2) h rfl rfl li_X0 rfl hv (by decide) rfl kw_89 hd kk
theorem pi_X0_22 {X : ch_X} {E : ch_E} {cc : ByteArray} {nL : Nat} {S : ch_S} {μ : ch_M} {kc ks pc : Nat} {L : List (Nat × Value)} {st : List Value} (h : ch_H X E RX0 cc nL) {k i : Nat} {x : Int32} (hv : S.2.1 k 1 i) (hd : decode cc pc = .ok (.putfield 22, 3)) (kk : ch_W X E nL S (ch_st μ k 1 i 2 x) kc ks (pc + 3) L st) : ch_W X E nL S μ kc ks pc L (.int x :: .ref (S.1 k 1 i) :: st) :=
  ca_puti (ci := 0) (j := 2) (ty := .int) h rfl rfl li_X0 tyX0 tyX0_ok nmX0 rfl hv (by decide) rfl kw_89 rfl (by decide +kernel) rfl rfl (fun z => absurd z (by decide)) hd kk
theorem gi_X0_25 {X : ch_X} {E : ch_E} {cc : ByteArray} {nL : Nat} {S : ch_S} {μ : ch_M} {kc ks pc : Nat} {L : List (Nat × Value)} {st : List Value} (h : ch_H X E RX0 cc nL) {k i : Nat} (hv : S.2.1 k 1 i) (hd : decode cc pc = .ok (.getfield 25, 3)) (kk : ch_W X E nL S μ kc ks (pc + 3) L (.int (μ k 1 i 3) :: st)) : ch_W X E nL S μ kc ks pc L (.ref (S.1 k 1 i) :: st) :=
  ca_geti (ci := 0) (j := 3) h rfl rfl li_X0 rfl hv (by decide) rfl kw_91 hd kk
theorem pi_X0_25 {X : ch_X} {E : ch_E} {cc : ByteArray} {nL : Nat} {S : ch_S} {μ : ch_M} {kc ks pc : Nat} {L : List (Nat × Value)} {st : List Value} (h : ch_H X E RX0 cc nL) {k i : Nat} {x : Int32} (hv : S.2.1 k 1 i) (hd : decode cc pc = .ok (.putfield 25, 3)) (kk : ch_W X E nL S (ch_st μ k 1 i 3 x) kc ks (pc + 3) L st) : ch_W X E nL S μ kc ks pc L (.int x :: .ref (S.1 k 1 i) :: st) :=
  ca_puti (ci := 0) (j := 3) (ty := .int) h rfl rfl li_X0 tyX0 tyX0_ok nmX0 rfl hv (by decide) rfl kw_91 rfl (by decide +kernel) rfl rfl (fun z => absurd z (by decide)) hd kk
theorem gi_X0_32 {X : ch_X} {E : ch_E} {cc : ByteArray} {nL : Nat} {S : ch_S} {μ : ch_M} {kc ks pc : Nat} {L : List (Nat × Value)} {st : List Value} (h : ch_H X E RX0 cc nL) {k i : Nat} (hv : S.2.1 k 1 i) (hd : decode cc pc = .ok (.getfield 32, 3)) (kk : ch_W X E nL S μ kc ks (pc + 3) L (.int (μ k 1 i 4) :: st)) : ch_W X E nL S μ kc ks pc L (.ref (S.1 k 1 i) :: st) :=
  ca_geti (ci := 0) (j := 4) h rfl rfl li_X0 rfl hv (by decide) rfl kw_93 hd kk
theorem pi_X0_32 {X : ch_X} {E : ch_E} {cc : ByteArray} {nL : Nat} {S : ch_S} {μ : ch_M} {kc ks pc : Nat} {L : List (Nat × Value)} {st : List Value} (h : ch_H X E RX0 cc nL) {k i : Nat} {x : Int32} (hv : S.2.1 k 1 i) (hd : decode cc pc = .ok (.putfield 32, 3)) (kk : ch_W X E nL S (ch_st μ k 1 i 4 x) kc ks (pc + 3) L st) : ch_W X E nL S μ kc ks pc L (.int x :: .ref (S.1 k 1 i) :: st) :=
  ca_puti (ci := 0) (j := 4) (ty := .int) h rfl rfl li_X0 tyX0 tyX0_ok nmX0 rfl hv (by decide) rfl kw_93 rfl (by decide +kernel) rfl rfl (fun z => absurd z (by decide)) hd kk
theorem gi_X0_35 {X : ch_X} {E : ch_E} {cc : ByteArray} {nL : Nat} {S : ch_S} {μ : ch_M} {kc ks pc : Nat} {L : List (Nat × Value)} {st : List Value} (h : ch_H X E RX0 cc nL) {k i : Nat} (hv : S.2.1 k 1 i) (hd : decode cc pc = .ok (.getfield 35, 3)) (kk : ch_W X E nL S μ kc ks (pc + 3) L (.int (μ k 1 i 5) :: st)) : ch_W X E nL S μ kc ks pc L (.ref (S.1 k 1 i) :: st) :=
  ca_geti (ci := 0) (j := 5) h rfl rfl li_X0 rfl hv (by decide) rfl kw_96 hd kk
theorem pi_X0_35 {X : ch_X} {E : ch_E} {cc : ByteArray} {nL : Nat} {S : ch_S} {μ : ch_M} {kc ks pc : Nat} {L : List (Nat × Value)} {st : List Value} (h : ch_H X E RX0 cc nL) {k i : Nat} {x : Int32} (hv : S.2.1 k 1 i) (hd : decode cc pc = .ok (.putfield 35, 3)) (kk : ch_W X E nL S (ch_st μ k 1 i 5 x) kc ks (pc + 3) L st) : ch_W X E nL S μ kc ks pc L (.int x :: .ref (S.1 k 1 i) :: st) :=
  ca_puti (ci := 0) (j := 5) (ty := .int) h rfl rfl li_X0 tyX0 tyX0_ok nmX0 rfl hv (by decide) rfl kw_96 rfl (by decide +kernel) rfl rfl (fun z => absurd z (by decide)) hd kk
theorem gi_X0_38 {X : ch_X} {E : ch_E} {cc : ByteArray} {nL : Nat} {S : ch_S} {μ : ch_M} {kc ks pc : Nat} {L : List (Nat × Value)} {st : List Value} (h : ch_H X E RX0 cc nL) {k i : Nat} (hv : S.2.1 k 1 i) (hd : decode cc pc = .ok (.getfield 38, 3)) (kk : ch_W X E nL S μ kc ks (pc + 3) L (.int (μ k 1 i 6) :: st)) : ch_W X E nL S μ kc ks pc L (.ref (S.1 k 1 i) :: st) :=
  ca_geti (ci := 0) (j := 6) h rfl rfl li_X0 rfl hv (by decide) rfl kw_99 hd kk
theorem pi_X0_38 {X : ch_X} {E : ch_E} {cc : ByteArray} {nL : Nat} {S : ch_S} {μ : ch_M} {kc ks pc : Nat} {L : List (Nat × Value)} {st : List Value} (h : ch_H X E RX0 cc nL) {k i : Nat} {x : Int32} (hv : S.2.1 k 1 i) (hd : decode cc pc = .ok (.putfield 38, 3)) (kk : ch_W X E nL S (ch_st μ k 1 i 6 x) kc ks (pc + 3) L st) : ch_W X E nL S μ kc ks pc L (.int x :: .ref (S.1 k 1 i) :: st) :=
  ca_puti (ci := 0) (j := 6) (ty := .int) h rfl rfl li_X0 tyX0 tyX0_ok nmX0 rfl hv (by decide) rfl kw_99 rfl (by decide +kernel) rfl rfl (fun z => absurd z (by decide)) hd kk
theorem gi_X0_41 {X : ch_X} {E : ch_E} {cc : ByteArray} {nL : Nat} {S : ch_S} {μ : ch_M} {kc ks pc : Nat} {L : List (Nat × Value)} {st : List Value} (h : ch_H X E RX0 cc nL) {k i : Nat} (hv : S.2.1 k 1 i) (hd : decode cc pc = .ok (.getfield 41, 3)) (kk : ch_W X E nL S μ kc ks (pc + 3) L (.int (μ k 1 i 7) :: st)) : ch_W X E nL S μ kc ks pc L (.ref (S.1 k 1 i) :: st) :=
  ca_geti (ci := 0) (j := 7) h rfl rfl li_X0 rfl hv (by decide) rfl kw_104 hd kk
theorem pi_X0_41 {X : ch_X} {E : ch_E} {cc : ByteArray} {nL : Nat} {S : ch_S} {μ : ch_M} {kc ks pc : Nat} {L : List (Nat × Value)} {st : List Value} (h : ch_H X E RX0 cc nL) {k i : Nat} {x : Int32} (hv : S.2.1 k 1 i) (hd : decode cc pc = .ok (.putfield 41, 3)) (kk : ch_W X E nL S (ch_st μ k 1 i 7 x) kc ks (pc + 3) L st) : ch_W X E nL S μ kc ks pc L (.int x :: .ref (S.1 k 1 i) :: st) :=
  ca_puti (ci := 0) (j := 7) (ty := .int) h rfl rfl li_X0 tyX0 tyX0_ok nmX0 rfl hv (by decide) rfl kw_104 rfl (by decide +kernel) rfl rfl (fun z => absurd z (by decide)) hd kk
theorem gi_X0_44 {X : ch_X} {E : ch_E} {cc : ByteArray} {nL : Nat} {S : ch_S} {μ : ch_M} {kc ks pc : Nat} {L : List (Nat × Value)} {st : List Value} (h : ch_H X E RX0 cc nL) {k i : Nat} (hv : S.2.1 k 1 i) (hd : decode cc pc = .ok (.getfield 44, 3)) (kk : ch_W X E nL S μ kc ks (pc + 3) L (.int (μ k 1 i 8) :: st)) : ch_W X E nL S μ kc ks pc L (.ref (S.1 k 1 i) :: st) :=
  ca_geti (ci := 0) (j := 8) h rfl rfl li_X0 rfl hv (by decide) rfl kw_106 hd kk
theorem pi_X0_44 {X : ch_X} {E : ch_E} {cc : ByteArray} {nL : Nat} {S : ch_S} {μ : ch_M} {kc ks pc : Nat} {L : List (Nat × Value)} {st : List Value} (h : ch_H X E RX0 cc nL) {k i : Nat} {x : Int32} (hv : S.2.1 k 1 i) (hd : decode cc pc = .ok (.putfield 44, 3)) (kk : ch_W X E nL S (ch_st μ k 1 i 8 x) kc ks (pc + 3) L st) : ch_W X E nL S μ kc ks pc L (.int x :: .ref (S.1 k 1 i) :: st) :=
  ca_puti (ci := 0) (j := 8) (ty := .int) h rfl rfl li_X0 tyX0 tyX0_ok nmX0 rfl hv (by decide) rfl kw_106 rfl (by decide +kernel) rfl rfl (fun z => absurd z (by decide)) hd kk
theorem gr_X1_11 {X : ch_X} {E : ch_E} {cc : ByteArray} {nL : Nat} {S : ch_S} {μ : ch_M} {kc ks pc : Nat} {L : List (Nat × Value)} {st : List Value} (h : ch_H X E RX1 cc nL) {k i : Nat} {r : Option Nat} (hv : S.2.1 k 14 i) (hx : S.2.2 k 14 i 2 = r) (hd : decode cc pc = .ok (.getfield 11, 3)) (kk : ch_W X E nL S μ kc ks (pc + 3) L (va_rf r :: st)) : ch_W X E nL S μ kc ks pc L (.ref (S.1 k 14 i) :: st) :=
  ca_getr (ci := 1) (j := 2) h rfl rfl li_X1 rfl hv (by decide) rfl kw_320 hx hd kk
theorem gs_X1_11 {X : ch_X} {E : ch_E} {cc : ByteArray} {nL : Nat} {S : ch_S} {μ : ch_M} {kc ks pc : Nat} {L : List (Nat × Value)} {st : List Value} (h : ch_H X E RX1 cc nL) {k i : Nat} (hs : ch_Std E S) (hv : ch_V k 14 i) (hd : decode cc pc = .ok (.getfield 11, 3)) (kk : ch_W X E nL S μ kc ks (pc + 3) L (.ref (S.1 15 15 0) :: st)) : ch_W X E nL S μ kc ks pc L (.ref (S.1 k 14 i) :: st) :=
  gr_X1_11 h (hs.1 _ _ _ hv) (hs.2.1 k 14 i 2 _ hv rfl) hd kk
theorem gi_X1_18 {X : ch_X} {E : ch_E} {cc : ByteArray} {nL : Nat} {S : ch_S} {μ : ch_M} {kc ks pc : Nat} {L : List (Nat × Value)} {st : List Value} (h : ch_H X E RX1 cc nL) {k i : Nat} (hv : S.2.1 k 14 i) (hd : decode cc pc = .ok (.getfield 18, 3)) (kk : ch_W X E nL S μ kc ks (pc + 3) L (.int (μ k 14 i 0) :: st)) : ch_W X E nL S μ kc ks pc L (.ref (S.1 k 14 i) :: st) :=
  ca_geti (ci := 1) (j := 0) h rfl rfl li_X1 rfl hv (by decide) rfl kw_317 hd kk
theorem pi_X1_18 {X : ch_X} {E : ch_E} {cc : ByteArray} {nL : Nat} {S : ch_S} {μ : ch_M} {kc ks pc : Nat} {L : List (Nat × Value)} {st : List Value} (h : ch_H X E RX1 cc nL) {k i : Nat} {x : Int32} (hv : S.2.1 k 14 i) (hd : decode cc pc = .ok (.putfield 18, 3)) (kk : ch_W X E nL S (ch_st μ k 14 i 0 x) kc ks (pc + 3) L st) : ch_W X E nL S μ kc ks pc L (.int x :: .ref (S.1 k 14 i) :: st) :=
  ca_puti (ci := 1) (j := 0) (ty := .int) h rfl rfl li_X1 tyX1 tyX1_ok nmX1 rfl hv (by decide) rfl kw_317 rfl (by decide +kernel) rfl rfl (fun z => absurd z (by decide)) hd kk
theorem gi_X1_22 {X : ch_X} {E : ch_E} {cc : ByteArray} {nL : Nat} {S : ch_S} {μ : ch_M} {kc ks pc : Nat} {L : List (Nat × Value)} {st : List Value} (h : ch_H X E RX1 cc nL) {k i : Nat} (hv : S.2.1 k 14 i) (hd : decode cc pc = .ok (.getfield 22, 3)) (kk : ch_W X E nL S μ kc ks (pc + 3) L (.int (μ k 14 i 1) :: st)) : ch_W X E nL S μ kc ks pc L (.ref (S.1 k 14 i) :: st) :=
  ca_geti (ci := 1) (j := 1) h rfl rfl li_X1 rfl hv (by decide) rfl kw_319 hd kk
theorem pi_X1_22 {X : ch_X} {E : ch_E} {cc : ByteArray} {nL : Nat} {S : ch_S} {μ : ch_M} {kc ks pc : Nat} {L : List (Nat × Value)} {st : List Value} (h : ch_H X E RX1 cc nL) {k i : Nat} {x : Int32} (hv : S.2.1 k 14 i) (hd : decode cc pc = .ok (.putfield 22, 3)) (kk : ch_W X E nL S (ch_st μ k 14 i 1 x) kc ks (pc + 3) L st) : ch_W X E nL S μ kc ks pc L (.int x :: .ref (S.1 k 14 i) :: st) :=
  ca_puti (ci := 1) (j := 1) (ty := .int) h rfl rfl li_X1 tyX1 tyX1_ok nmX1 rfl hv (by decide) rfl kw_319 rfl (by decide +kernel) rfl rfl (fun z => absurd z (by decide)) hd kk
theorem gr_X2_9 {X : ch_X} {E : ch_E} {cc : ByteArray} {nL : Nat} {S : ch_S} {μ : ch_M} {kc ks pc : Nat} {L : List (Nat × Value)} {st : List Value} (h : ch_H X E RX2 cc nL) {k i : Nat} {r : Option Nat} (hv : S.2.1 k 3 i) (hx : S.2.2 k 3 i 10 = r) (hd : decode cc pc = .ok (.getfield 9, 3)) (kk : ch_W X E nL S μ kc ks (pc + 3) L (va_rf r :: st)) : ch_W X E nL S μ kc ks pc L (.ref (S.1 k 3 i) :: st) :=
  ca_getr (ci := 2) (j := 10) h rfl rfl li_X2 rfl hv (by decide) rfl kw_201 hx hd kk
theorem gs_X2_9 {X : ch_X} {E : ch_E} {cc : ByteArray} {nL : Nat} {S : ch_S} {μ : ch_M} {kc ks pc : Nat} {L : List (Nat × Value)} {st : List Value} (h : ch_H X E RX2 cc nL) {k i : Nat} (hs : ch_Std E S) (hv : ch_V k 3 i) (hd : decode cc pc = .ok (.getfield 9, 3)) (kk : ch_W X E nL S μ kc ks (pc + 3) L (.ref (S.1 k 4 i) :: st)) : ch_W X E nL S μ kc ks pc L (.ref (S.1 k 3 i) :: st) :=
  gr_X2_9 h (hs.1 _ _ _ hv) (hs.2.1 k 3 i 10 _ hv rfl) hd kk
theorem gr_X2_15 {X : ch_X} {E : ch_E} {cc : ByteArray} {nL : Nat} {S : ch_S} {μ : ch_M} {kc ks pc : Nat} {L : List (Nat × Value)} {st : List Value} (h : ch_H X E RX2 cc nL) {k i : Nat} {r : Option Nat} (hv : S.2.1 k 3 i) (hx : S.2.2 k 3 i 11 = r) (hd : decode cc pc = .ok (.getfield 15, 3)) (kk : ch_W X E nL S μ kc ks (pc + 3) L (va_rf r :: st)) : ch_W X E nL S μ kc ks pc L (.ref (S.1 k 3 i) :: st) :=
  ca_getr (ci := 2) (j := 11) h rfl rfl li_X2 rfl hv (by decide) rfl kw_202 hx hd kk
theorem gs_X2_15 {X : ch_X} {E : ch_E} {cc : ByteArray} {nL : Nat} {S : ch_S} {μ : ch_M} {kc ks pc : Nat} {L : List (Nat × Value)} {st : List Value} (h : ch_H X E RX2 cc nL) {k i : Nat} (hs : ch_Std E S) (hv : ch_V k 3 i) (hd : decode cc pc = .ok (.getfield 15, 3)) (kk : ch_W X E nL S μ kc ks (pc + 3) L (.ref (S.1 k 5 i) :: st)) : ch_W X E nL S μ kc ks pc L (.ref (S.1 k 3 i) :: st) :=
  gr_X2_15 h (hs.1 _ _ _ hv) (hs.2.1 k 3 i 11 _ hv rfl) hd kk
theorem gr_X2_18 {X : ch_X} {E : ch_E} {cc : ByteArray} {nL : Nat} {S : ch_S} {μ : ch_M} {kc ks pc : Nat} {L : List (Nat × Value)} {st : List Value} (h : ch_H X E RX2 cc nL) {k i : Nat} {r : Option Nat} (hv : S.2.1 k 3 i) (hx : S.2.2 k 3 i 12 = r) (hd : decode cc pc = .ok (.getfield 18, 3)) (kk : ch_W X E nL S μ kc ks (pc + 3) L (va_rf r :: st)) : ch_W X E nL S μ kc ks pc L (.ref (S.1 k 3 i) :: st) :=
  ca_getr (ci := 2) (j := 12) h rfl rfl li_X2 rfl hv (by decide) rfl kw_203 hx hd kk
theorem gs_X2_18 {X : ch_X} {E : ch_E} {cc : ByteArray} {nL : Nat} {S : ch_S} {μ : ch_M} {kc ks pc : Nat} {L : List (Nat × Value)} {st : List Value} (h : ch_H X E RX2 cc nL) {k i : Nat} (hs : ch_Std E S) (hv : ch_V k 3 i) (hd : decode cc pc = .ok (.getfield 18, 3)) (kk : ch_W X E nL S μ kc ks (pc + 3) L (.ref (S.1 k 6 i) :: st)) : ch_W X E nL S μ kc ks pc L (.ref (S.1 k 3 i) :: st) :=
  gr_X2_18 h (hs.1 _ _ _ hv) (hs.2.1 k 3 i 12 _ hv rfl) hd kk
theorem gi_X2_21 {X : ch_X} {E : ch_E} {cc : ByteArray} {nL : Nat} {S : ch_S} {μ : ch_M} {kc ks pc : Nat} {L : List (Nat × Value)} {st : List Value} (h : ch_H X E RX2 cc nL) {k i : Nat} (hv : S.2.1 k 3 i) (hd : decode cc pc = .ok (.getfield 21, 3)) (kk : ch_W X E nL S μ kc ks (pc + 3) L (.int (μ k 3 i 5) :: st)) : ch_W X E nL S μ kc ks pc L (.ref (S.1 k 3 i) :: st) :=
  ca_geti (ci := 2) (j := 5) h rfl rfl li_X2 rfl hv (by decide) rfl kw_182 hd kk
theorem pi_X2_21 {X : ch_X} {E : ch_E} {cc : ByteArray} {nL : Nat} {S : ch_S} {μ : ch_M} {kc ks pc : Nat} {L : List (Nat × Value)} {st : List Value} (h : ch_H X E RX2 cc nL) {k i : Nat} {x : Int32} (hv : S.2.1 k 3 i) (hd : decode cc pc = .ok (.putfield 21, 3)) (kk : ch_W X E nL S (ch_st μ k 3 i 5 x) kc ks (pc + 3) L st) : ch_W X E nL S μ kc ks pc L (.int x :: .ref (S.1 k 3 i) :: st) :=
  ca_puti (ci := 2) (j := 5) (ty := .int) h rfl rfl li_X2 tyX2 tyX2_ok nmX2 rfl hv (by decide) rfl kw_182 rfl (by decide +kernel) rfl rfl (fun z => absurd z (by decide)) hd kk
theorem gi_X2_25 {X : ch_X} {E : ch_E} {cc : ByteArray} {nL : Nat} {S : ch_S} {μ : ch_M} {kc ks pc : Nat} {L : List (Nat × Value)} {st : List Value} (h : ch_H X E RX2 cc nL) {k i : Nat} (hv : S.2.1 k 3 i) (hd : decode cc pc = .ok (.getfield 25, 3)) (kk : ch_W X E nL S μ kc ks (pc + 3) L (.int (μ k 3 i 8) :: st)) : ch_W X E nL S μ kc ks pc L (.ref (S.1 k 3 i) :: st) :=
  ca_geti (ci := 2) (j := 8) h rfl rfl li_X2 rfl hv (by decide) rfl kw_194 hd kk
theorem pi_X2_25 {X : ch_X} {E : ch_E} {cc : ByteArray} {nL : Nat} {S : ch_S} {μ : ch_M} {kc ks pc : Nat} {L : List (Nat × Value)} {st : List Value} (h : ch_H X E RX2 cc nL) {k i : Nat} {x : Int32} (hv : S.2.1 k 3 i) (hd : decode cc pc = .ok (.putfield 25, 3)) (kk : ch_W X E nL S (ch_st μ k 3 i 8 x) kc ks (pc + 3) L st) : ch_W X E nL S μ kc ks pc L (.int x :: .ref (S.1 k 3 i) :: st) :=
  ca_puti (ci := 2) (j := 8) (ty := .int) h rfl rfl li_X2 tyX2 tyX2_ok nmX2 rfl hv (by decide) rfl kw_194 rfl (by decide +kernel) rfl rfl (fun z => absurd z (by decide)) hd kk
theorem gi_X2_28 {X : ch_X} {E : ch_E} {cc : ByteArray} {nL : Nat} {S : ch_S} {μ : ch_M} {kc ks pc : Nat} {L : List (Nat × Value)} {st : List Value} (h : ch_H X E RX2 cc nL) {k i : Nat} (hv : S.2.1 k 3 i) (hd : decode cc pc = .ok (.getfield 28, 3)) (kk : ch_W X E nL S μ kc ks (pc + 3) L (.int (μ k 3 i 0) :: st)) : ch_W X E nL S μ kc ks pc L (.ref (S.1 k 3 i) :: st) :=
  ca_geti (ci := 2) (j := 0) h rfl rfl li_X2 rfl hv (by decide) rfl kw_164 hd kk
theorem pi_X2_28 {X : ch_X} {E : ch_E} {cc : ByteArray} {nL : Nat} {S : ch_S} {μ : ch_M} {kc ks pc : Nat} {L : List (Nat × Value)} {st : List Value} (h : ch_H X E RX2 cc nL) {k i : Nat} {x : Int32} (hv : S.2.1 k 3 i) (hd : decode cc pc = .ok (.putfield 28, 3)) (kk : ch_W X E nL S (ch_st μ k 3 i 0 x) kc ks (pc + 3) L st) : ch_W X E nL S μ kc ks pc L (.int x :: .ref (S.1 k 3 i) :: st) :=
  ca_puti (ci := 2) (j := 0) (ty := .int) h rfl rfl li_X2 tyX2 tyX2_ok nmX2 rfl hv (by decide) rfl kw_164 rfl (by decide +kernel) rfl rfl (fun z => absurd z (by decide)) hd kk
theorem gi_X2_31 {X : ch_X} {E : ch_E} {cc : ByteArray} {nL : Nat} {S : ch_S} {μ : ch_M} {kc ks pc : Nat} {L : List (Nat × Value)} {st : List Value} (h : ch_H X E RX2 cc nL) {k i : Nat} (hv : S.2.1 k 3 i) (hd : decode cc pc = .ok (.getfield 31, 3)) (kk : ch_W X E nL S μ kc ks (pc + 3) L (.int (μ k 3 i 1) :: st)) : ch_W X E nL S μ kc ks pc L (.ref (S.1 k 3 i) :: st) :=
  ca_geti (ci := 2) (j := 1) h rfl rfl li_X2 rfl hv (by decide) rfl kw_168 hd kk
theorem pi_X2_31 {X : ch_X} {E : ch_E} {cc : ByteArray} {nL : Nat} {S : ch_S} {μ : ch_M} {kc ks pc : Nat} {L : List (Nat × Value)} {st : List Value} (h : ch_H X E RX2 cc nL) {k i : Nat} {x : Int32} (hv : S.2.1 k 3 i) (hd : decode cc pc = .ok (.putfield 31, 3)) (kk : ch_W X E nL S (ch_st μ k 3 i 1 x) kc ks (pc + 3) L st) : ch_W X E nL S μ kc ks pc L (.int x :: .ref (S.1 k 3 i) :: st) :=
  ca_puti (ci := 2) (j := 1) (ty := .int) h rfl rfl li_X2 tyX2 tyX2_ok nmX2 rfl hv (by decide) rfl kw_168 rfl (by decide +kernel) rfl rfl (fun z => absurd z (by decide)) hd kk
theorem gi_X2_34 {X : ch_X} {E : ch_E} {cc : ByteArray} {nL : Nat} {S : ch_S} {μ : ch_M} {kc ks pc : Nat} {L : List (Nat × Value)} {st : List Value} (h : ch_H X E RX2 cc nL) {k i : Nat} (hv : S.2.1 k 3 i) (hd : decode cc pc = .ok (.getfield 34, 3)) (kk : ch_W X E nL S μ kc ks (pc + 3) L (.int (μ k 3 i 2) :: st)) : ch_W X E nL S μ kc ks pc L (.ref (S.1 k 3 i) :: st) :=
  ca_geti (ci := 2) (j := 2) h rfl rfl li_X2 rfl hv (by decide) rfl kw_172 hd kk
theorem pi_X2_34 {X : ch_X} {E : ch_E} {cc : ByteArray} {nL : Nat} {S : ch_S} {μ : ch_M} {kc ks pc : Nat} {L : List (Nat × Value)} {st : List Value} (h : ch_H X E RX2 cc nL) {k i : Nat} {x : Int32} (hv : S.2.1 k 3 i) (hd : decode cc pc = .ok (.putfield 34, 3)) (kk : ch_W X E nL S (ch_st μ k 3 i 2 x) kc ks (pc + 3) L st) : ch_W X E nL S μ kc ks pc L (.int x :: .ref (S.1 k 3 i) :: st) :=
  ca_puti (ci := 2) (j := 2) (ty := .int) h rfl rfl li_X2 tyX2 tyX2_ok nmX2 rfl hv (by decide) rfl kw_172 rfl (by decide +kernel) rfl rfl (fun z => absurd z (by decide)) hd kk
theorem gi_X2_37 {X : ch_X} {E : ch_E} {cc : ByteArray} {nL : Nat} {S : ch_S} {μ : ch_M} {kc ks pc : Nat} {L : List (Nat × Value)} {st : List Value} (h : ch_H X E RX2 cc nL) {k i : Nat} (hv : S.2.1 k 3 i) (hd : decode cc pc = .ok (.getfield 37, 3)) (kk : ch_W X E nL S μ kc ks (pc + 3) L (.int (μ k 3 i 3) :: st)) : ch_W X E nL S μ kc ks pc L (.ref (S.1 k 3 i) :: st) :=
  ca_geti (ci := 2) (j := 3) h rfl rfl li_X2 rfl hv (by decide) rfl kw_175 hd kk
theorem pi_X2_37 {X : ch_X} {E : ch_E} {cc : ByteArray} {nL : Nat} {S : ch_S} {μ : ch_M} {kc ks pc : Nat} {L : List (Nat × Value)} {st : List Value} (h : ch_H X E RX2 cc nL) {k i : Nat} {x : Int32} (hv : S.2.1 k 3 i) (hd : decode cc pc = .ok (.putfield 37, 3)) (kk : ch_W X E nL S (ch_st μ k 3 i 3 x) kc ks (pc + 3) L st) : ch_W X E nL S μ kc ks pc L (.int x :: .ref (S.1 k 3 i) :: st) :=
  ca_puti (ci := 2) (j := 3) (ty := .int) h rfl rfl li_X2 tyX2 tyX2_ok nmX2 rfl hv (by decide) rfl kw_175 rfl (by decide +kernel) rfl rfl (fun z => absurd z (by decide)) hd kk
theorem gi_X2_43 {X : ch_X} {E : ch_E} {cc : ByteArray} {nL : Nat} {S : ch_S} {μ : ch_M} {kc ks pc : Nat} {L : List (Nat × Value)} {st : List Value} (h : ch_H X E RX2 cc nL) {k i : Nat} (hv : S.2.1 k 3 i) (hd : decode cc pc = .ok (.getfield 43, 3)) (kk : ch_W X E nL S μ kc ks (pc + 3) L (.int (μ k 3 i 4) :: st)) : ch_W X E nL S μ kc ks pc L (.ref (S.1 k 3 i) :: st) :=
  ca_geti (ci := 2) (j := 4) h rfl rfl li_X2 rfl hv (by decide) rfl kw_178 hd kk
theorem pi_X2_43 {X : ch_X} {E : ch_E} {cc : ByteArray} {nL : Nat} {S : ch_S} {μ : ch_M} {kc ks pc : Nat} {L : List (Nat × Value)} {st : List Value} (h : ch_H X E RX2 cc nL) {k i : Nat} {x : Int32} (hv : S.2.1 k 3 i) (hd : decode cc pc = .ok (.putfield 43, 3)) (kk : ch_W X E nL S (ch_st μ k 3 i 4 x) kc ks (pc + 3) L st) : ch_W X E nL S μ kc ks pc L (.int x :: .ref (S.1 k 3 i) :: st) :=
  ca_puti (ci := 2) (j := 4) (ty := .int) h rfl rfl li_X2 tyX2 tyX2_ok nmX2 rfl hv (by decide) rfl kw_178 rfl (by decide +kernel) rfl rfl (fun z => absurd z (by decide)) hd kk
theorem gi_X2_46 {X : ch_X} {E : ch_E} {cc : ByteArray} {nL : Nat} {S : ch_S} {μ : ch_M} {kc ks pc : Nat} {L : List (Nat × Value)} {st : List Value} (h : ch_H X E RX2 cc nL) {k i : Nat} (hv : S.2.1 k 3 i) (hd : decode cc pc = .ok (.getfield 46, 3)) (kk : ch_W X E nL S μ kc ks (pc + 3) L (.int (μ k 3 i 6) :: st)) : ch_W X E nL S μ kc ks pc L (.ref (S.1 k 3 i) :: st) :=
  ca_geti (ci := 2) (j := 6) h rfl rfl li_X2 rfl hv (by decide) rfl kw_187 hd kk
theorem pi_X2_46 {X : ch_X} {E : ch_E} {cc : ByteArray} {nL : Nat} {S : ch_S} {μ : ch_M} {kc ks pc : Nat} {L : List (Nat × Value)} {st : List Value} (h : ch_H X E RX2 cc nL) {k i : Nat} {x : Int32} (hv : S.2.1 k 3 i) (hd : decode cc pc = .ok (.putfield 46, 3)) (kk : ch_W X E nL S (ch_st μ k 3 i 6 x) kc ks (pc + 3) L st) : ch_W X E nL S μ kc ks pc L (.int x :: .ref (S.1 k 3 i) :: st) :=
  ca_puti (ci := 2) (j := 6) (ty := .int) h rfl rfl li_X2 tyX2 tyX2_ok nmX2 rfl hv (by decide) rfl kw_187 rfl (by decide +kernel) rfl rfl (fun z => absurd z (by decide)) hd kk
theorem gi_X2_49 {X : ch_X} {E : ch_E} {cc : ByteArray} {nL : Nat} {S : ch_S} {μ : ch_M} {kc ks pc : Nat} {L : List (Nat × Value)} {st : List Value} (h : ch_H X E RX2 cc nL) {k i : Nat} (hv : S.2.1 k 3 i) (hd : decode cc pc = .ok (.getfield 49, 3)) (kk : ch_W X E nL S μ kc ks (pc + 3) L (.int (μ k 3 i 7) :: st)) : ch_W X E nL S μ kc ks pc L (.ref (S.1 k 3 i) :: st) :=
  ca_geti (ci := 2) (j := 7) h rfl rfl li_X2 rfl hv (by decide) rfl kw_191 hd kk
theorem pi_X2_49 {X : ch_X} {E : ch_E} {cc : ByteArray} {nL : Nat} {S : ch_S} {μ : ch_M} {kc ks pc : Nat} {L : List (Nat × Value)} {st : List Value} (h : ch_H X E RX2 cc nL) {k i : Nat} {x : Int32} (hv : S.2.1 k 3 i) (hd : decode cc pc = .ok (.putfield 49, 3)) (kk : ch_W X E nL S (ch_st μ k 3 i 7 x) kc ks (pc + 3) L st) : ch_W X E nL S μ kc ks pc L (.int x :: .ref (S.1 k 3 i) :: st) :=
  ca_puti (ci := 2) (j := 7) (ty := .int) h rfl rfl li_X2 tyX2 tyX2_ok nmX2 rfl hv (by decide) rfl kw_191 rfl (by decide +kernel) rfl rfl (fun z => absurd z (by decide)) hd kk
theorem gi_X2_52 {X : ch_X} {E : ch_E} {cc : ByteArray} {nL : Nat} {S : ch_S} {μ : ch_M} {kc ks pc : Nat} {L : List (Nat × Value)} {st : List Value} (h : ch_H X E RX2 cc nL) {k i : Nat} (hv : S.2.1 k 3 i) (hd : decode cc pc = .ok (.getfield 52, 3)) (kk : ch_W X E nL S μ kc ks (pc + 3) L (.int (μ k 3 i 9) :: st)) : ch_W X E nL S μ kc ks pc L (.ref (S.1 k 3 i) :: st) :=
  ca_geti (ci := 2) (j := 9) h rfl rfl li_X2 rfl hv (by decide) rfl kw_198 hd kk
theorem pi_X2_52 {X : ch_X} {E : ch_E} {cc : ByteArray} {nL : Nat} {S : ch_S} {μ : ch_M} {kc ks pc : Nat} {L : List (Nat × Value)} {st : List Value} (h : ch_H X E RX2 cc nL) {k i : Nat} {x : Int32} (hv : S.2.1 k 3 i) (hd : decode cc pc = .ok (.putfield 52, 3)) (kk : ch_W X E nL S (ch_st μ k 3 i 9 x) kc ks (pc + 3) L st) : ch_W X E nL S μ kc ks pc L (.int x :: .ref (S.1 k 3 i) :: st) :=
  ca_puti (ci := 2) (j := 9) (ty := .int) h rfl rfl li_X2 tyX2 tyX2_ok nmX2 rfl hv (by decide) rfl kw_198 rfl (by decide +kernel) rfl rfl (fun z => absurd z (by decide)) hd kk
theorem gr_X3_11 {X : ch_X} {E : ch_E} {cc : ByteArray} {nL : Nat} {S : ch_S} {μ : ch_M} {kc ks pc : Nat} {L : List (Nat × Value)} {st : List Value} (h : ch_H X E RX3 cc nL) {k i : Nat} {r : Option Nat} (hv : S.2.1 k 0 i) (hx : S.2.2 k 0 i 10 = r) (hd : decode cc pc = .ok (.getfield 11, 3)) (kk : ch_W X E nL S μ kc ks (pc + 3) L (va_rf r :: st)) : ch_W X E nL S μ kc ks pc L (.ref (S.1 k 0 i) :: st) :=
  ca_getr (ci := 3) (j := 10) h rfl rfl li_X3 rfl hv (by decide) rfl kw_266 hx hd kk
theorem gs_X3_11 {X : ch_X} {E : ch_E} {cc : ByteArray} {nL : Nat} {S : ch_S} {μ : ch_M} {kc ks pc : Nat} {L : List (Nat × Value)} {st : List Value} (h : ch_H X E RX3 cc nL) {k i : Nat} (hs : ch_Std E S) (hv : ch_V k 0 i) (hd : decode cc pc = .ok (.getfield 11, 3)) (kk : ch_W X E nL S μ kc ks (pc + 3) L (.ref (S.1 k 8 0) :: st)) : ch_W X E nL S μ kc ks pc L (.ref (S.1 k 0 i) :: st) :=
  gr_X3_11 h (hs.1 _ _ _ hv) (hs.2.1 k 0 i 10 _ hv rfl) hd kk
theorem gr_X3_19 {X : ch_X} {E : ch_E} {cc : ByteArray} {nL : Nat} {S : ch_S} {μ : ch_M} {kc ks pc : Nat} {L : List (Nat × Value)} {st : List Value} (h : ch_H X E RX3 cc nL) {k i : Nat} {r : Option Nat} (hv : S.2.1 k 0 i) (hx : S.2.2 k 0 i 11 = r) (hd : decode cc pc = .ok (.getfield 19, 3)) (kk : ch_W X E nL S μ kc ks (pc + 3) L (va_rf r :: st)) : ch_W X E nL S μ kc ks pc L (.ref (S.1 k 0 i) :: st) :=
  ca_getr (ci := 3) (j := 11) h rfl rfl li_X3 rfl hv (by decide) rfl kw_267 hx hd kk
theorem gs_X3_19 {X : ch_X} {E : ch_E} {cc : ByteArray} {nL : Nat} {S : ch_S} {μ : ch_M} {kc ks pc : Nat} {L : List (Nat × Value)} {st : List Value} (h : ch_H X E RX3 cc nL) {k i : Nat} (hs : ch_Std E S) (hv : ch_V k 0 i) (hd : decode cc pc = .ok (.getfield 19, 3)) (kk : ch_W X E nL S μ kc ks (pc + 3) L (.ref (S.1 k 9 0) :: st)) : ch_W X E nL S μ kc ks pc L (.ref (S.1 k 0 i) :: st) :=
  gr_X3_19 h (hs.1 _ _ _ hv) (hs.2.1 k 0 i 11 _ hv rfl) hd kk
theorem gr_X3_25 {X : ch_X} {E : ch_E} {cc : ByteArray} {nL : Nat} {S : ch_S} {μ : ch_M} {kc ks pc : Nat} {L : List (Nat × Value)} {st : List Value} (h : ch_H X E RX3 cc nL) {k i : Nat} {r : Option Nat} (hv : S.2.1 k 0 i) (hx : S.2.2 k 0 i 12 = r) (hd : decode cc pc = .ok (.getfield 25, 3)) (kk : ch_W X E nL S μ kc ks (pc + 3) L (va_rf r :: st)) : ch_W X E nL S μ kc ks pc L (.ref (S.1 k 0 i) :: st) :=
  ca_getr (ci := 3) (j := 12) h rfl rfl li_X3 rfl hv (by decide) rfl kw_268 hx hd kk
theorem gs_X3_25 {X : ch_X} {E : ch_E} {cc : ByteArray} {nL : Nat} {S : ch_S} {μ : ch_M} {kc ks pc : Nat} {L : List (Nat × Value)} {st : List Value} (h : ch_H X E RX3 cc nL) {k i : Nat} (hs : ch_Std E S) (hv : ch_V k 0 i) (hd : decode cc pc = .ok (.getfield 25, 3)) (kk : ch_W X E nL S μ kc ks (pc + 3) L (.ref (S.1 k 10 0) :: st)) : ch_W X E nL S μ kc ks pc L (.ref (S.1 k 0 i) :: st) :=
  gr_X3_25 h (hs.1 _ _ _ hv) (hs.2.1 k 0 i 12 _ hv rfl) hd kk
theorem gr_X3_29 {X : ch_X} {E : ch_E} {cc : ByteArray} {nL : Nat} {S : ch_S} {μ : ch_M} {kc ks pc : Nat} {L : List (Nat × Value)} {st : List Value} (h : ch_H X E RX3 cc nL) {k i : Nat} {r : Option Nat} (hv : S.2.1 k 0 i) (hx : S.2.2 k 0 i 13 = r) (hd : decode cc pc = .ok (.getfield 29, 3)) (kk : ch_W X E nL S μ kc ks (pc + 3) L (va_rf r :: st)) : ch_W X E nL S μ kc ks pc L (.ref (S.1 k 0 i) :: st) :=
  ca_getr (ci := 3) (j := 13) h rfl rfl li_X3 rfl hv (by decide) rfl kw_269 hx hd kk
theorem gs_X3_29 {X : ch_X} {E : ch_E} {cc : ByteArray} {nL : Nat} {S : ch_S} {μ : ch_M} {kc ks pc : Nat} {L : List (Nat × Value)} {st : List Value} (h : ch_H X E RX3 cc nL) {k i : Nat} (hs : ch_Std E S) (hv : ch_V k 0 i) (hd : decode cc pc = .ok (.getfield 29, 3)) (kk : ch_W X E nL S μ kc ks (pc + 3) L (.ref (S.1 k 7 0) :: st)) : ch_W X E nL S μ kc ks pc L (.ref (S.1 k 0 i) :: st) :=
  gr_X3_29 h (hs.1 _ _ _ hv) (hs.2.1 k 0 i 13 _ hv rfl) hd kk
theorem gr_X3_34 {X : ch_X} {E : ch_E} {cc : ByteArray} {nL : Nat} {S : ch_S} {μ : ch_M} {kc ks pc : Nat} {L : List (Nat × Value)} {st : List Value} (h : ch_H X E RX3 cc nL) {k i : Nat} {r : Option Nat} (hv : S.2.1 k 0 i) (hx : S.2.2 k 0 i 14 = r) (hd : decode cc pc = .ok (.getfield 34, 3)) (kk : ch_W X E nL S μ kc ks (pc + 3) L (va_rf r :: st)) : ch_W X E nL S μ kc ks pc L (.ref (S.1 k 0 i) :: st) :=
  ca_getr (ci := 3) (j := 14) h rfl rfl li_X3 rfl hv (by decide) rfl kw_270 hx hd kk
theorem gs_X3_34 {X : ch_X} {E : ch_E} {cc : ByteArray} {nL : Nat} {S : ch_S} {μ : ch_M} {kc ks pc : Nat} {L : List (Nat × Value)} {st : List Value} (h : ch_H X E RX3 cc nL) {k i : Nat} (hs : ch_Std E S) (hv : ch_V k 0 i) (hd : decode cc pc = .ok (.getfield 34, 3)) (kk : ch_W X E nL S μ kc ks (pc + 3) L (.ref (S.1 k 1 8) :: st)) : ch_W X E nL S μ kc ks pc L (.ref (S.1 k 0 i) :: st) :=
  gr_X3_34 h (hs.1 _ _ _ hv) (hs.2.1 k 0 i 14 _ hv rfl) hd kk
theorem gr_X3_39 {X : ch_X} {E : ch_E} {cc : ByteArray} {nL : Nat} {S : ch_S} {μ : ch_M} {kc ks pc : Nat} {L : List (Nat × Value)} {st : List Value} (h : ch_H X E RX3 cc nL) {k i : Nat} {r : Option Nat} (hv : S.2.1 k 0 i) (hx : S.2.2 k 0 i 15 = r) (hd : decode cc pc = .ok (.getfield 39, 3)) (kk : ch_W X E nL S μ kc ks (pc + 3) L (va_rf r :: st)) : ch_W X E nL S μ kc ks pc L (.ref (S.1 k 0 i) :: st) :=
  ca_getr (ci := 3) (j := 15) h rfl rfl li_X3 rfl hv (by decide) rfl kw_271 hx hd kk
theorem gs_X3_39 {X : ch_X} {E : ch_E} {cc : ByteArray} {nL : Nat} {S : ch_S} {μ : ch_M} {kc ks pc : Nat} {L : List (Nat × Value)} {st : List Value} (h : ch_H X E RX3 cc nL) {k i : Nat} (hs : ch_Std E S) (hv : ch_V k 0 i) (hd : decode cc pc = .ok (.getfield 39, 3)) (kk : ch_W X E nL S μ kc ks (pc + 3) L (.ref (S.1 k 2 64) :: st)) : ch_W X E nL S μ kc ks pc L (.ref (S.1 k 0 i) :: st) :=
  gr_X3_39 h (hs.1 _ _ _ hv) (hs.2.1 k 0 i 15 _ hv rfl) hd kk
theorem gr_X3_44 {X : ch_X} {E : ch_E} {cc : ByteArray} {nL : Nat} {S : ch_S} {μ : ch_M} {kc ks pc : Nat} {L : List (Nat × Value)} {st : List Value} (h : ch_H X E RX3 cc nL) {k i : Nat} {r : Option Nat} (hv : S.2.1 k 0 i) (hx : S.2.2 k 0 i 16 = r) (hd : decode cc pc = .ok (.getfield 44, 3)) (kk : ch_W X E nL S μ kc ks (pc + 3) L (va_rf r :: st)) : ch_W X E nL S μ kc ks pc L (.ref (S.1 k 0 i) :: st) :=
  ca_getr (ci := 3) (j := 16) h rfl rfl li_X3 rfl hv (by decide) rfl kw_272 hx hd kk
theorem gs_X3_44 {X : ch_X} {E : ch_E} {cc : ByteArray} {nL : Nat} {S : ch_S} {μ : ch_M} {kc ks pc : Nat} {L : List (Nat × Value)} {st : List Value} (h : ch_H X E RX3 cc nL) {k i : Nat} (hs : ch_Std E S) (hv : ch_V k 0 i) (hd : decode cc pc = .ok (.getfield 44, 3)) (kk : ch_W X E nL S μ kc ks (pc + 3) L (.ref (S.1 k 3 12) :: st)) : ch_W X E nL S μ kc ks pc L (.ref (S.1 k 0 i) :: st) :=
  gr_X3_44 h (hs.1 _ _ _ hv) (hs.2.1 k 0 i 16 _ hv rfl) hd kk
theorem gi_X3_51 {X : ch_X} {E : ch_E} {cc : ByteArray} {nL : Nat} {S : ch_S} {μ : ch_M} {kc ks pc : Nat} {L : List (Nat × Value)} {st : List Value} (h : ch_H X E RX3 cc nL) {k i : Nat} (hv : S.2.1 k 0 i) (hd : decode cc pc = .ok (.getfield 51, 3)) (kk : ch_W X E nL S μ kc ks (pc + 3) L (.int (μ k 0 i 4) :: st)) : ch_W X E nL S μ kc ks pc L (.ref (S.1 k 0 i) :: st) :=
  ca_geti (ci := 3) (j := 4) h rfl rfl li_X3 rfl hv (by decide) rfl kw_249 hd kk
theorem pi_X3_51 {X : ch_X} {E : ch_E} {cc : ByteArray} {nL : Nat} {S : ch_S} {μ : ch_M} {kc ks pc : Nat} {L : List (Nat × Value)} {st : List Value} (h : ch_H X E RX3 cc nL) {k i : Nat} {x : Int32} (hv : S.2.1 k 0 i) (hd : decode cc pc = .ok (.putfield 51, 3)) (kk : ch_W X E nL S (ch_st μ k 0 i 4 x) kc ks (pc + 3) L st) : ch_W X E nL S μ kc ks pc L (.int x :: .ref (S.1 k 0 i) :: st) :=
  ca_puti (ci := 3) (j := 4) (ty := .int) h rfl rfl li_X3 tyX3 tyX3_ok nmX3 rfl hv (by decide) rfl kw_249 rfl (by decide +kernel) rfl rfl (fun z => absurd z (by decide)) hd kk
theorem gi_X3_55 {X : ch_X} {E : ch_E} {cc : ByteArray} {nL : Nat} {S : ch_S} {μ : ch_M} {kc ks pc : Nat} {L : List (Nat × Value)} {st : List Value} (h : ch_H X E RX3 cc nL) {k i : Nat} (hv : S.2.1 k 0 i) (hd : decode cc pc = .ok (.getfield 55, 3)) (kk : ch_W X E nL S μ kc ks (pc + 3) L (.int (μ k 0 i 5) :: st)) : ch_W X E nL S μ kc ks pc L (.ref (S.1 k 0 i) :: st) :=
  ca_geti (ci := 3) (j := 5) h rfl rfl li_X3 rfl hv (by decide) rfl kw_252 hd kk
theorem pi_X3_55 {X : ch_X} {E : ch_E} {cc : ByteArray} {nL : Nat} {S : ch_S} {μ : ch_M} {kc ks pc : Nat} {L : List (Nat × Value)} {st : List Value} (h : ch_H X E RX3 cc nL) {k i : Nat} {x : Int32} (hv : S.2.1 k 0 i) (hd : decode cc pc = .ok (.putfield 55, 3)) (kk : ch_W X E nL S (ch_st μ k 0 i 5 x) kc ks (pc + 3) L st) : ch_W X E nL S μ kc ks pc L (.int x :: .ref (S.1 k 0 i) :: st) :=
  ca_puti (ci := 3) (j := 5) (ty := .int) h rfl rfl li_X3 tyX3 tyX3_ok nmX3 rfl hv (by decide) rfl kw_252 rfl (by decide +kernel) rfl rfl (fun z => absurd z (by decide)) hd kk
theorem gi_X3_58 {X : ch_X} {E : ch_E} {cc : ByteArray} {nL : Nat} {S : ch_S} {μ : ch_M} {kc ks pc : Nat} {L : List (Nat × Value)} {st : List Value} (h : ch_H X E RX3 cc nL) {k i : Nat} (hv : S.2.1 k 0 i) (hd : decode cc pc = .ok (.getfield 58, 3)) (kk : ch_W X E nL S μ kc ks (pc + 3) L (.int (μ k 0 i 6) :: st)) : ch_W X E nL S μ kc ks pc L (.ref (S.1 k 0 i) :: st) :=
  ca_geti (ci := 3) (j := 6) h rfl rfl li_X3 rfl hv (by decide) rfl kw_255 hd kk
theorem pi_X3_58 {X : ch_X} {E : ch_E} {cc : ByteArray} {nL : Nat} {S : ch_S} {μ : ch_M} {kc ks pc : Nat} {L : List (Nat × Value)} {st : List Value} (h : ch_H X E RX3 cc nL) {k i : Nat} {x : Int32} (hv : S.2.1 k 0 i) (hd : decode cc pc = .ok (.putfield 58, 3)) (kk : ch_W X E nL S (ch_st μ k 0 i 6 x) kc ks (pc + 3) L st) : ch_W X E nL S μ kc ks pc L (.int x :: .ref (S.1 k 0 i) :: st) :=
  ca_puti (ci := 3) (j := 6) (ty := .int) h rfl rfl li_X3 tyX3 tyX3_ok nmX3 rfl hv (by decide) rfl kw_255 rfl (by decide +kernel) rfl rfl (fun z => absurd z (by decide)) hd kk
theorem gi_X3_61 {X : ch_X} {E : ch_E} {cc : ByteArray} {nL : Nat} {S : ch_S} {μ : ch_M} {kc ks pc : Nat} {L : List (Nat × Value)} {st : List Value} (h : ch_H X E RX3 cc nL) {k i : Nat} (hv : S.2.1 k 0 i) (hd : decode cc pc = .ok (.getfield 61, 3)) (kk : ch_W X E nL S μ kc ks (pc + 3) L (.int (μ k 0 i 7) :: st)) : ch_W X E nL S μ kc ks pc L (.ref (S.1 k 0 i) :: st) :=
  ca_geti (ci := 3) (j := 7) h rfl rfl li_X3 rfl hv (by decide) rfl kw_257 hd kk
theorem pi_X3_61 {X : ch_X} {E : ch_E} {cc : ByteArray} {nL : Nat} {S : ch_S} {μ : ch_M} {kc ks pc : Nat} {L : List (Nat × Value)} {st : List Value} (h : ch_H X E RX3 cc nL) {k i : Nat} {x : Int32} (hv : S.2.1 k 0 i) (hd : decode cc pc = .ok (.putfield 61, 3)) (kk : ch_W X E nL S (ch_st μ k 0 i 7 x) kc ks (pc + 3) L st) : ch_W X E nL S μ kc ks pc L (.int x :: .ref (S.1 k 0 i) :: st) :=
  ca_puti (ci := 3) (j := 7) (ty := .int) h rfl rfl li_X3 tyX3 tyX3_ok nmX3 rfl hv (by decide) rfl kw_257 rfl (by decide +kernel) rfl rfl (fun z => absurd z (by decide)) hd kk
theorem gi_X3_64 {X : ch_X} {E : ch_E} {cc : ByteArray} {nL : Nat} {S : ch_S} {μ : ch_M} {kc ks pc : Nat} {L : List (Nat × Value)} {st : List Value} (h : ch_H X E RX3 cc nL) {k i : Nat} (hv : S.2.1 k 0 i) (hd : decode cc pc = .ok (.getfield 64, 3)) (kk : ch_W X E nL S μ kc ks (pc + 3) L (.int (μ k 0 i 8) :: st)) : ch_W X E nL S μ kc ks pc L (.ref (S.1 k 0 i) :: st) :=
  ca_geti (ci := 3) (j := 8) h rfl rfl li_X3 rfl hv (by decide) rfl kw_260 hd kk
theorem pi_X3_64 {X : ch_X} {E : ch_E} {cc : ByteArray} {nL : Nat} {S : ch_S} {μ : ch_M} {kc ks pc : Nat} {L : List (Nat × Value)} {st : List Value} (h : ch_H X E RX3 cc nL) {k i : Nat} {x : Int32} (hv : S.2.1 k 0 i) (hd : decode cc pc = .ok (.putfield 64, 3)) (kk : ch_W X E nL S (ch_st μ k 0 i 8 x) kc ks (pc + 3) L st) : ch_W X E nL S μ kc ks pc L (.int x :: .ref (S.1 k 0 i) :: st) :=
  ca_puti (ci := 3) (j := 8) (ty := .int) h rfl rfl li_X3 tyX3 tyX3_ok nmX3 rfl hv (by decide) rfl kw_260 rfl (by decide +kernel) rfl rfl (fun z => absurd z (by decide)) hd kk
theorem gi_X3_67 {X : ch_X} {E : ch_E} {cc : ByteArray} {nL : Nat} {S : ch_S} {μ : ch_M} {kc ks pc : Nat} {L : List (Nat × Value)} {st : List Value} (h : ch_H X E RX3 cc nL) {k i : Nat} (hv : S.2.1 k 0 i) (hd : decode cc pc = .ok (.getfield 67, 3)) (kk : ch_W X E nL S μ kc ks (pc + 3) L (.int (μ k 0 i 9) :: st)) : ch_W X E nL S μ kc ks pc L (.ref (S.1 k 0 i) :: st) :=
  ca_geti (ci := 3) (j := 9) h rfl rfl li_X3 rfl hv (by decide) rfl kw_263 hd kk
theorem pi_X3_67 {X : ch_X} {E : ch_E} {cc : ByteArray} {nL : Nat} {S : ch_S} {μ : ch_M} {kc ks pc : Nat} {L : List (Nat × Value)} {st : List Value} (h : ch_H X E RX3 cc nL) {k i : Nat} {x : Int32} (hv : S.2.1 k 0 i) (hd : decode cc pc = .ok (.putfield 67, 3)) (kk : ch_W X E nL S (ch_st μ k 0 i 9 x) kc ks (pc + 3) L st) : ch_W X E nL S μ kc ks pc L (.int x :: .ref (S.1 k 0 i) :: st) :=
  ca_puti (ci := 3) (j := 9) (ty := .int) h rfl rfl li_X3 tyX3 tyX3_ok nmX3 rfl hv (by decide) rfl kw_263 rfl (by decide +kernel) rfl rfl (fun z => absurd z (by decide)) hd kk
theorem gi_X3_70 {X : ch_X} {E : ch_E} {cc : ByteArray} {nL : Nat} {S : ch_S} {μ : ch_M} {kc ks pc : Nat} {L : List (Nat × Value)} {st : List Value} (h : ch_H X E RX3 cc nL) {k i : Nat} (hv : S.2.1 k 0 i) (hd : decode cc pc = .ok (.getfield 70, 3)) (kk : ch_W X E nL S μ kc ks (pc + 3) L (.int (μ k 0 i 0) :: st)) : ch_W X E nL S μ kc ks pc L (.ref (S.1 k 0 i) :: st) :=
  ca_geti (ci := 3) (j := 0) h rfl rfl li_X3 rfl hv (by decide) rfl kw_239 hd kk
theorem pi_X3_70 {X : ch_X} {E : ch_E} {cc : ByteArray} {nL : Nat} {S : ch_S} {μ : ch_M} {kc ks pc : Nat} {L : List (Nat × Value)} {st : List Value} (h : ch_H X E RX3 cc nL) {k i : Nat} {x : Int32} (hv : S.2.1 k 0 i) (hd : decode cc pc = .ok (.putfield 70, 3)) (kk : ch_W X E nL S (ch_st μ k 0 i 0 x) kc ks (pc + 3) L st) : ch_W X E nL S μ kc ks pc L (.int x :: .ref (S.1 k 0 i) :: st) :=
  ca_puti (ci := 3) (j := 0) (ty := .int) h rfl rfl li_X3 tyX3 tyX3_ok nmX3 rfl hv (by decide) rfl kw_239 rfl (by decide +kernel) rfl rfl (fun z => absurd z (by decide)) hd kk
theorem gi_X3_73 {X : ch_X} {E : ch_E} {cc : ByteArray} {nL : Nat} {S : ch_S} {μ : ch_M} {kc ks pc : Nat} {L : List (Nat × Value)} {st : List Value} (h : ch_H X E RX3 cc nL) {k i : Nat} (hv : S.2.1 k 0 i) (hd : decode cc pc = .ok (.getfield 73, 3)) (kk : ch_W X E nL S μ kc ks (pc + 3) L (.int (μ k 0 i 1) :: st)) : ch_W X E nL S μ kc ks pc L (.ref (S.1 k 0 i) :: st) :=
  ca_geti (ci := 3) (j := 1) h rfl rfl li_X3 rfl hv (by decide) rfl kw_241 hd kk
theorem pi_X3_73 {X : ch_X} {E : ch_E} {cc : ByteArray} {nL : Nat} {S : ch_S} {μ : ch_M} {kc ks pc : Nat} {L : List (Nat × Value)} {st : List Value} (h : ch_H X E RX3 cc nL) {k i : Nat} {x : Int32} (hv : S.2.1 k 0 i) (hd : decode cc pc = .ok (.putfield 73, 3)) (kk : ch_W X E nL S (ch_st μ k 0 i 1 x) kc ks (pc + 3) L st) : ch_W X E nL S μ kc ks pc L (.int x :: .ref (S.1 k 0 i) :: st) :=
  ca_puti (ci := 3) (j := 1) (ty := .int) h rfl rfl li_X3 tyX3 tyX3_ok nmX3 rfl hv (by decide) rfl kw_241 rfl (by decide +kernel) rfl rfl (fun z => absurd z (by decide)) hd kk
theorem gi_X3_76 {X : ch_X} {E : ch_E} {cc : ByteArray} {nL : Nat} {S : ch_S} {μ : ch_M} {kc ks pc : Nat} {L : List (Nat × Value)} {st : List Value} (h : ch_H X E RX3 cc nL) {k i : Nat} (hv : S.2.1 k 0 i) (hd : decode cc pc = .ok (.getfield 76, 3)) (kk : ch_W X E nL S μ kc ks (pc + 3) L (.int (μ k 0 i 2) :: st)) : ch_W X E nL S μ kc ks pc L (.ref (S.1 k 0 i) :: st) :=
  ca_geti (ci := 3) (j := 2) h rfl rfl li_X3 rfl hv (by decide) rfl kw_244 hd kk
theorem pi_X3_76 {X : ch_X} {E : ch_E} {cc : ByteArray} {nL : Nat} {S : ch_S} {μ : ch_M} {kc ks pc : Nat} {L : List (Nat × Value)} {st : List Value} (h : ch_H X E RX3 cc nL) {k i : Nat} {x : Int32} (hv : S.2.1 k 0 i) (hd : decode cc pc = .ok (.putfield 76, 3)) (kk : ch_W X E nL S (ch_st μ k 0 i 2 x) kc ks (pc + 3) L st) : ch_W X E nL S μ kc ks pc L (.int x :: .ref (S.1 k 0 i) :: st) :=
  ca_puti (ci := 3) (j := 2) (ty := .int) h rfl rfl li_X3 tyX3 tyX3_ok nmX3 rfl hv (by decide) rfl kw_244 rfl (by decide +kernel) rfl rfl (fun z => absurd z (by decide)) hd kk
theorem gi_X3_79 {X : ch_X} {E : ch_E} {cc : ByteArray} {nL : Nat} {S : ch_S} {μ : ch_M} {kc ks pc : Nat} {L : List (Nat × Value)} {st : List Value} (h : ch_H X E RX3 cc nL) {k i : Nat} (hv : S.2.1 k 0 i) (hd : decode cc pc = .ok (.getfield 79, 3)) (kk : ch_W X E nL S μ kc ks (pc + 3) L (.int (μ k 0 i 3) :: st)) : ch_W X E nL S μ kc ks pc L (.ref (S.1 k 0 i) :: st) :=
  ca_geti (ci := 3) (j := 3) h rfl rfl li_X3 rfl hv (by decide) rfl kw_248 hd kk
theorem pi_X3_79 {X : ch_X} {E : ch_E} {cc : ByteArray} {nL : Nat} {S : ch_S} {μ : ch_M} {kc ks pc : Nat} {L : List (Nat × Value)} {st : List Value} (h : ch_H X E RX3 cc nL) {k i : Nat} {x : Int32} (hv : S.2.1 k 0 i) (hd : decode cc pc = .ok (.putfield 79, 3)) (kk : ch_W X E nL S (ch_st μ k 0 i 3 x) kc ks (pc + 3) L st) : ch_W X E nL S μ kc ks pc L (.int x :: .ref (S.1 k 0 i) :: st) :=
  ca_puti (ci := 3) (j := 3) (ty := .int) h rfl rfl li_X3 tyX3 tyX3_ok nmX3 rfl hv (by decide) rfl kw_248 rfl (by decide +kernel) rfl rfl (fun z => absurd z (by decide)) hd kk
theorem gi_X3_128 {X : ch_X} {E : ch_E} {cc : ByteArray} {nL : Nat} {S : ch_S} {μ : ch_M} {kc ks pc : Nat} {L : List (Nat × Value)} {st : List Value} (h : ch_H X E RX3 cc nL) {k i : Nat} (hv : S.2.1 k 1 i) (hd : decode cc pc = .ok (.getfield 128, 3)) (kk : ch_W X E nL S μ kc ks (pc + 3) L (.int (μ k 1 i 6) :: st)) : ch_W X E nL S μ kc ks pc L (.ref (S.1 k 1 i) :: st) :=
  ca_geti (ci := 0) (j := 6) h rfl rfl li_X0 rfl hv (by decide) rfl kw_102 hd kk
theorem pi_X3_128 {X : ch_X} {E : ch_E} {cc : ByteArray} {nL : Nat} {S : ch_S} {μ : ch_M} {kc ks pc : Nat} {L : List (Nat × Value)} {st : List Value} (h : ch_H X E RX3 cc nL) {k i : Nat} {x : Int32} (hv : S.2.1 k 1 i) (hd : decode cc pc = .ok (.putfield 128, 3)) (kk : ch_W X E nL S (ch_st μ k 1 i 6 x) kc ks (pc + 3) L st) : ch_W X E nL S μ kc ks pc L (.int x :: .ref (S.1 k 1 i) :: st) :=
  ca_puti (ci := 0) (j := 6) (ty := .int) h rfl rfl li_X0 tyX0 tyX0_ok nmX0 rfl hv (by decide) rfl kw_102 rfl (by decide +kernel) rfl rfl (fun z => absurd z (by decide)) hd kk
theorem gi_X3_131 {X : ch_X} {E : ch_E} {cc : ByteArray} {nL : Nat} {S : ch_S} {μ : ch_M} {kc ks pc : Nat} {L : List (Nat × Value)} {st : List Value} (h : ch_H X E RX3 cc nL) {k i : Nat} (hv : S.2.1 k 3 i) (hd : decode cc pc = .ok (.getfield 131, 3)) (kk : ch_W X E nL S μ kc ks (pc + 3) L (.int (μ k 3 i 4) :: st)) : ch_W X E nL S μ kc ks pc L (.ref (S.1 k 3 i) :: st) :=
  ca_geti (ci := 2) (j := 4) h rfl rfl li_X2 rfl hv (by decide) rfl kw_180 hd kk
theorem pi_X3_131 {X : ch_X} {E : ch_E} {cc : ByteArray} {nL : Nat} {S : ch_S} {μ : ch_M} {kc ks pc : Nat} {L : List (Nat × Value)} {st : List Value} (h : ch_H X E RX3 cc nL) {k i : Nat} {x : Int32} (hv : S.2.1 k 3 i) (hd : decode cc pc = .ok (.putfield 131, 3)) (kk : ch_W X E nL S (ch_st μ k 3 i 4 x) kc ks (pc + 3) L st) : ch_W X E nL S μ kc ks pc L (.int x :: .ref (S.1 k 3 i) :: st) :=
  ca_puti (ci := 2) (j := 4) (ty := .int) h rfl rfl li_X2 tyX2 tyX2_ok nmX2 rfl hv (by decide) rfl kw_180 rfl (by decide +kernel) rfl rfl (fun z => absurd z (by decide)) hd kk
theorem gi_X3_134 {X : ch_X} {E : ch_E} {cc : ByteArray} {nL : Nat} {S : ch_S} {μ : ch_M} {kc ks pc : Nat} {L : List (Nat × Value)} {st : List Value} (h : ch_H X E RX3 cc nL) {k i : Nat} (hv : S.2.1 k 3 i) (hd : decode cc pc = .ok (.getfield 134, 3)) (kk : ch_W X E nL S μ kc ks (pc + 3) L (.int (μ k 3 i 5) :: st)) : ch_W X E nL S μ kc ks pc L (.ref (S.1 k 3 i) :: st) :=
  ca_geti (ci := 2) (j := 5) h rfl rfl li_X2 rfl hv (by decide) rfl kw_185 hd kk
theorem pi_X3_134 {X : ch_X} {E : ch_E} {cc : ByteArray} {nL : Nat} {S : ch_S} {μ : ch_M} {kc ks pc : Nat} {L : List (Nat × Value)} {st : List Value} (h : ch_H X E RX3 cc nL) {k i : Nat} {x : Int32} (hv : S.2.1 k 3 i) (hd : decode cc pc = .ok (.putfield 134, 3)) (kk : ch_W X E nL S (ch_st μ k 3 i 5 x) kc ks (pc + 3) L st) : ch_W X E nL S μ kc ks pc L (.int x :: .ref (S.1 k 3 i) :: st) :=
  ca_puti (ci := 2) (j := 5) (ty := .int) h rfl rfl li_X2 tyX2 tyX2_ok nmX2 rfl hv (by decide) rfl kw_185 rfl (by decide +kernel) rfl rfl (fun z => absurd z (by decide)) hd kk
theorem gi_X3_141 {X : ch_X} {E : ch_E} {cc : ByteArray} {nL : Nat} {S : ch_S} {μ : ch_M} {kc ks pc : Nat} {L : List (Nat × Value)} {st : List Value} (h : ch_H X E RX3 cc nL) {k i : Nat} (hv : S.2.1 k 1 i) (hd : decode cc pc = .ok (.getfield 141, 3)) (kk : ch_W X E nL S μ kc ks (pc + 3) L (.int (μ k 1 i 4) :: st)) : ch_W X E nL S μ kc ks pc L (.ref (S.1 k 1 i) :: st) :=
  ca_geti (ci := 0) (j := 4) h rfl rfl li_X0 rfl hv (by decide) rfl kw_95 hd kk
theorem pi_X3_141 {X : ch_X} {E : ch_E} {cc : ByteArray} {nL : Nat} {S : ch_S} {μ : ch_M} {kc ks pc : Nat} {L : List (Nat × Value)} {st : List Value} (h : ch_H X E RX3 cc nL) {k i : Nat} {x : Int32} (hv : S.2.1 k 1 i) (hd : decode cc pc = .ok (.putfield 141, 3)) (kk : ch_W X E nL S (ch_st μ k 1 i 4 x) kc ks (pc + 3) L st) : ch_W X E nL S μ kc ks pc L (.int x :: .ref (S.1 k 1 i) :: st) :=
  ca_puti (ci := 0) (j := 4) (ty := .int) h rfl rfl li_X0 tyX0 tyX0_ok nmX0 rfl hv (by decide) rfl kw_95 rfl (by decide +kernel) rfl rfl (fun z => absurd z (by decide)) hd kk
theorem gi_X3_144 {X : ch_X} {E : ch_E} {cc : ByteArray} {nL : Nat} {S : ch_S} {μ : ch_M} {kc ks pc : Nat} {L : List (Nat × Value)} {st : List Value} (h : ch_H X E RX3 cc nL) {k i : Nat} (hv : S.2.1 k 3 i) (hd : decode cc pc = .ok (.getfield 144, 3)) (kk : ch_W X E nL S μ kc ks (pc + 3) L (.int (μ k 3 i 8) :: st)) : ch_W X E nL S μ kc ks pc L (.ref (S.1 k 3 i) :: st) :=
  ca_geti (ci := 2) (j := 8) h rfl rfl li_X2 rfl hv (by decide) rfl kw_196 hd kk
theorem pi_X3_144 {X : ch_X} {E : ch_E} {cc : ByteArray} {nL : Nat} {S : ch_S} {μ : ch_M} {kc ks pc : Nat} {L : List (Nat × Value)} {st : List Value} (h : ch_H X E RX3 cc nL) {k i : Nat} {x : Int32} (hv : S.2.1 k 3 i) (hd : decode cc pc = .ok (.putfield 144, 3)) (kk : ch_W X E nL S (ch_st μ k 3 i 8 x) kc ks (pc + 3) L st) : ch_W X E nL S μ kc ks pc L (.int x :: .ref (S.1 k 3 i) :: st) :=
  ca_puti (ci := 2) (j := 8) (ty := .int) h rfl rfl li_X2 tyX2 tyX2_ok nmX2 rfl hv (by decide) rfl kw_196 rfl (by decide +kernel) rfl rfl (fun z => absurd z (by decide)) hd kk
theorem gi_X3_150 {X : ch_X} {E : ch_E} {cc : ByteArray} {nL : Nat} {S : ch_S} {μ : ch_M} {kc ks pc : Nat} {L : List (Nat × Value)} {st : List Value} (h : ch_H X E RX3 cc nL) {k i : Nat} (hv : S.2.1 k 1 i) (hd : decode cc pc = .ok (.getfield 150, 3)) (kk : ch_W X E nL S μ kc ks (pc + 3) L (.int (μ k 1 i 5) :: st)) : ch_W X E nL S μ kc ks pc L (.ref (S.1 k 1 i) :: st) :=
  ca_geti (ci := 0) (j := 5) h rfl rfl li_X0 rfl hv (by decide) rfl kw_98 hd kk
theorem pi_X3_150 {X : ch_X} {E : ch_E} {cc : ByteArray} {nL : Nat} {S : ch_S} {μ : ch_M} {kc ks pc : Nat} {L : List (Nat × Value)} {st : List Value} (h : ch_H X E RX3 cc nL) {k i : Nat} {x : Int32} (hv : S.2.1 k 1 i) (hd : decode cc pc = .ok (.putfield 150, 3)) (kk : ch_W X E nL S (ch_st μ k 1 i 5 x) kc ks (pc + 3) L st) : ch_W X E nL S μ kc ks pc L (.int x :: .ref (S.1 k 1 i) :: st) :=
  ca_puti (ci := 0) (j := 5) (ty := .int) h rfl rfl li_X0 tyX0 tyX0_ok nmX0 rfl hv (by decide) rfl kw_98 rfl (by decide +kernel) rfl rfl (fun z => absurd z (by decide)) hd kk
theorem gi_X3_160 {X : ch_X} {E : ch_E} {cc : ByteArray} {nL : Nat} {S : ch_S} {μ : ch_M} {kc ks pc : Nat} {L : List (Nat × Value)} {st : List Value} (h : ch_H X E RX3 cc nL) {k i : Nat} (hv : S.2.1 k 3 i) (hd : decode cc pc = .ok (.getfield 160, 3)) (kk : ch_W X E nL S μ kc ks (pc + 3) L (.int (μ k 3 i 9) :: st)) : ch_W X E nL S μ kc ks pc L (.ref (S.1 k 3 i) :: st) :=
  ca_geti (ci := 2) (j := 9) h rfl rfl li_X2 rfl hv (by decide) rfl kw_200 hd kk
theorem pi_X3_160 {X : ch_X} {E : ch_E} {cc : ByteArray} {nL : Nat} {S : ch_S} {μ : ch_M} {kc ks pc : Nat} {L : List (Nat × Value)} {st : List Value} (h : ch_H X E RX3 cc nL) {k i : Nat} {x : Int32} (hv : S.2.1 k 3 i) (hd : decode cc pc = .ok (.putfield 160, 3)) (kk : ch_W X E nL S (ch_st μ k 3 i 9 x) kc ks (pc + 3) L st) : ch_W X E nL S μ kc ks pc L (.int x :: .ref (S.1 k 3 i) :: st) :=
  ca_puti (ci := 2) (j := 9) (ty := .int) h rfl rfl li_X2 tyX2 tyX2_ok nmX2 rfl hv (by decide) rfl kw_200 rfl (by decide +kernel) rfl rfl (fun z => absurd z (by decide)) hd kk
theorem gi_X3_167 {X : ch_X} {E : ch_E} {cc : ByteArray} {nL : Nat} {S : ch_S} {μ : ch_M} {kc ks pc : Nat} {L : List (Nat × Value)} {st : List Value} (h : ch_H X E RX3 cc nL) {k i : Nat} (hv : S.2.1 k 3 i) (hd : decode cc pc = .ok (.getfield 167, 3)) (kk : ch_W X E nL S μ kc ks (pc + 3) L (.int (μ k 3 i 0) :: st)) : ch_W X E nL S μ kc ks pc L (.ref (S.1 k 3 i) :: st) :=
  ca_geti (ci := 2) (j := 0) h rfl rfl li_X2 rfl hv (by decide) rfl kw_167 hd kk
theorem pi_X3_167 {X : ch_X} {E : ch_E} {cc : ByteArray} {nL : Nat} {S : ch_S} {μ : ch_M} {kc ks pc : Nat} {L : List (Nat × Value)} {st : List Value} (h : ch_H X E RX3 cc nL) {k i : Nat} {x : Int32} (hv : S.2.1 k 3 i) (hd : decode cc pc = .ok (.putfield 167, 3)) (kk : ch_W X E nL S (ch_st μ k 3 i 0 x) kc ks (pc + 3) L st) : ch_W X E nL S μ kc ks pc L (.int x :: .ref (S.1 k 3 i) :: st) :=
  ca_puti (ci := 2) (j := 0) (ty := .int) h rfl rfl li_X2 tyX2 tyX2_ok nmX2 rfl hv (by decide) rfl kw_167 rfl (by decide +kernel) rfl rfl (fun z => absurd z (by decide)) hd kk
theorem gi_X3_170 {X : ch_X} {E : ch_E} {cc : ByteArray} {nL : Nat} {S : ch_S} {μ : ch_M} {kc ks pc : Nat} {L : List (Nat × Value)} {st : List Value} (h : ch_H X E RX3 cc nL) {k i : Nat} (hv : S.2.1 k 3 i) (hd : decode cc pc = .ok (.getfield 170, 3)) (kk : ch_W X E nL S μ kc ks (pc + 3) L (.int (μ k 3 i 1) :: st)) : ch_W X E nL S μ kc ks pc L (.ref (S.1 k 3 i) :: st) :=
  ca_geti (ci := 2) (j := 1) h rfl rfl li_X2 rfl hv (by decide) rfl kw_171 hd kk
theorem pi_X3_170 {X : ch_X} {E : ch_E} {cc : ByteArray} {nL : Nat} {S : ch_S} {μ : ch_M} {kc ks pc : Nat} {L : List (Nat × Value)} {st : List Value} (h : ch_H X E RX3 cc nL) {k i : Nat} {x : Int32} (hv : S.2.1 k 3 i) (hd : decode cc pc = .ok (.putfield 170, 3)) (kk : ch_W X E nL S (ch_st μ k 3 i 1 x) kc ks (pc + 3) L st) : ch_W X E nL S μ kc ks pc L (.int x :: .ref (S.1 k 3 i) :: st) :=
  ca_puti (ci := 2) (j := 1) (ty := .int) h rfl rfl li_X2 tyX2 tyX2_ok nmX2 rfl hv (by decide) rfl kw_171 rfl (by decide +kernel) rfl rfl (fun z => absurd z (by decide)) hd kk
theorem gi_X3_181 {X : ch_X} {E : ch_E} {cc : ByteArray} {nL : Nat} {S : ch_S} {μ : ch_M} {kc ks pc : Nat} {L : List (Nat × Value)} {st : List Value} (h : ch_H X E RX3 cc nL) {k i : Nat} (hv : S.2.1 k 3 i) (hd : decode cc pc = .ok (.getfield 181, 3)) (kk : ch_W X E nL S μ kc ks (pc + 3) L (.int (μ k 3 i 6) :: st)) : ch_W X E nL S μ kc ks pc L (.ref (S.1 k 3 i) :: st) :=
  ca_geti (ci := 2) (j := 6) h rfl rfl li_X2 rfl hv (by decide) rfl kw_189 hd kk
theorem pi_X3_181 {X : ch_X} {E : ch_E} {cc : ByteArray} {nL : Nat} {S : ch_S} {μ : ch_M} {kc ks pc : Nat} {L : List (Nat × Value)} {st : List Value} (h : ch_H X E RX3 cc nL) {k i : Nat} {x : Int32} (hv : S.2.1 k 3 i) (hd : decode cc pc = .ok (.putfield 181, 3)) (kk : ch_W X E nL S (ch_st μ k 3 i 6 x) kc ks (pc + 3) L st) : ch_W X E nL S μ kc ks pc L (.int x :: .ref (S.1 k 3 i) :: st) :=
  ca_puti (ci := 2) (j := 6) (ty := .int) h rfl rfl li_X2 tyX2 tyX2_ok nmX2 rfl hv (by decide) rfl kw_189 rfl (by decide +kernel) rfl rfl (fun z => absurd z (by decide)) hd kk
theorem gi_X3_194 {X : ch_X} {E : ch_E} {cc : ByteArray} {nL : Nat} {S : ch_S} {μ : ch_M} {kc ks pc : Nat} {L : List (Nat × Value)} {st : List Value} (h : ch_H X E RX3 cc nL) {k i : Nat} (hv : S.2.1 k 2 i) (hd : decode cc pc = .ok (.getfield 194, 3)) (kk : ch_W X E nL S μ kc ks (pc + 3) L (.int (μ k 2 i 0) :: st)) : ch_W X E nL S μ kc ks pc L (.ref (S.1 k 2 i) :: st) :=
  ca_geti (ci := 7) (j := 0) h rfl rfl li_X7 rfl hv (by decide) rfl kw_139 hd kk
theorem pi_X3_194 {X : ch_X} {E : ch_E} {cc : ByteArray} {nL : Nat} {S : ch_S} {μ : ch_M} {kc ks pc : Nat} {L : List (Nat × Value)} {st : List Value} (h : ch_H X E RX3 cc nL) {k i : Nat} {x : Int32} (hv : S.2.1 k 2 i) (hx : x = 0 ∨ x = 1) (hd : decode cc pc = .ok (.putfield 194, 3)) (kk : ch_W X E nL S (ch_st μ k 2 i 0 x) kc ks (pc + 3) L st) : ch_W X E nL S μ kc ks pc L (.int x :: .ref (S.1 k 2 i) :: st) :=
  ca_puti (ci := 7) (j := 0) (ty := .boolean) h rfl rfl li_X7 tyX7 tyX7_ok nmX7 rfl hv (by decide) rfl kw_139 rfl (by decide +kernel) (by rcases hx with rfl | rfl <;> decide) (by rcases hx with rfl | rfl <;> decide) (fun _ => hx) hd kk
theorem gi_X3_204 {X : ch_X} {E : ch_E} {cc : ByteArray} {nL : Nat} {S : ch_S} {μ : ch_M} {kc ks pc : Nat} {L : List (Nat × Value)} {st : List Value} (h : ch_H X E RX3 cc nL) {k i : Nat} (hv : S.2.1 k 3 i) (hd : decode cc pc = .ok (.getfield 204, 3)) (kk : ch_W X E nL S μ kc ks (pc + 3) L (.int (μ k 3 i 7) :: st)) : ch_W X E nL S μ kc ks pc L (.ref (S.1 k 3 i) :: st) :=
  ca_geti (ci := 2) (j := 7) h rfl rfl li_X2 rfl hv (by decide) rfl kw_193 hd kk
theorem pi_X3_204 {X : ch_X} {E : ch_E} {cc : ByteArray} {nL : Nat} {S : ch_S} {μ : ch_M} {kc ks pc : Nat} {L : List (Nat × Value)} {st : List Value} (h : ch_H X E RX3 cc nL) {k i : Nat} {x : Int32} (hv : S.2.1 k 3 i) (hd : decode cc pc = .ok (.putfield 204, 3)) (kk : ch_W X E nL S (ch_st μ k 3 i 7 x) kc ks (pc + 3) L st) : ch_W X E nL S μ kc ks pc L (.int x :: .ref (S.1 k 3 i) :: st) :=
  ca_puti (ci := 2) (j := 7) (ty := .int) h rfl rfl li_X2 tyX2 tyX2_ok nmX2 rfl hv (by decide) rfl kw_193 rfl (by decide +kernel) rfl rfl (fun z => absurd z (by decide)) hd kk
theorem gi_X3_207 {X : ch_X} {E : ch_E} {cc : ByteArray} {nL : Nat} {S : ch_S} {μ : ch_M} {kc ks pc : Nat} {L : List (Nat × Value)} {st : List Value} (h : ch_H X E RX3 cc nL) {k i : Nat} (hv : S.2.1 k 2 i) (hd : decode cc pc = .ok (.getfield 207, 3)) (kk : ch_W X E nL S μ kc ks (pc + 3) L (.int (μ k 2 i 2) :: st)) : ch_W X E nL S μ kc ks pc L (.ref (S.1 k 2 i) :: st) :=
  ca_geti (ci := 7) (j := 2) h rfl rfl li_X7 rfl hv (by decide) rfl kw_145 hd kk
theorem pi_X3_207 {X : ch_X} {E : ch_E} {cc : ByteArray} {nL : Nat} {S : ch_S} {μ : ch_M} {kc ks pc : Nat} {L : List (Nat × Value)} {st : List Value} (h : ch_H X E RX3 cc nL) {k i : Nat} {x : Int32} (hv : S.2.1 k 2 i) (hd : decode cc pc = .ok (.putfield 207, 3)) (kk : ch_W X E nL S (ch_st μ k 2 i 2 x) kc ks (pc + 3) L st) : ch_W X E nL S μ kc ks pc L (.int x :: .ref (S.1 k 2 i) :: st) :=
  ca_puti (ci := 7) (j := 2) (ty := .int) h rfl rfl li_X7 tyX7 tyX7_ok nmX7 rfl hv (by decide) rfl kw_145 rfl (by decide +kernel) rfl rfl (fun z => absurd z (by decide)) hd kk
theorem gr_X4_9 {X : ch_X} {E : ch_E} {cc : ByteArray} {nL : Nat} {S : ch_S} {μ : ch_M} {kc ks pc : Nat} {L : List (Nat × Value)} {st : List Value} (h : ch_H X E RX4 cc nL) {k i : Nat} {r : Option Nat} (hv : S.2.1 k 35 i) (hx : S.2.2 k 35 i 0 = r) (hd : decode cc pc = .ok (.getfield 9, 3)) (kk : ch_W X E nL S μ kc ks (pc + 3) L (va_rf r :: st)) : ch_W X E nL S μ kc ks pc L (.ref (S.1 k 35 i) :: st) :=
  ca_getr (ci := 4) (j := 0) h rfl rfl li_X4 rfl hv (by decide) rfl kw_960 hx hd kk
theorem gr_X4_15 {X : ch_X} {E : ch_E} {cc : ByteArray} {nL : Nat} {S : ch_S} {μ : ch_M} {kc ks pc : Nat} {L : List (Nat × Value)} {st : List Value} (h : ch_H X E RX4 cc nL) {k i : Nat} {r : Option Nat} (hv : S.2.1 k 35 i) (hx : S.2.2 k 35 i 1 = r) (hd : decode cc pc = .ok (.getfield 15, 3)) (kk : ch_W X E nL S μ kc ks (pc + 3) L (va_rf r :: st)) : ch_W X E nL S μ kc ks pc L (.ref (S.1 k 35 i) :: st) :=
  ca_getr (ci := 4) (j := 1) h rfl rfl li_X4 rfl hv (by decide) rfl kw_961 hx hd kk
theorem gi_X4_62 {X : ch_X} {E : ch_E} {cc : ByteArray} {nL : Nat} {S : ch_S} {μ : ch_M} {kc ks pc : Nat} {L : List (Nat × Value)} {st : List Value} (h : ch_H X E RX4 cc nL) {k i : Nat} (hv : S.2.1 k 0 i) (hd : decode cc pc = .ok (.getfield 62, 3)) (kk : ch_W X E nL S μ kc ks (pc + 3) L (.int (μ k 0 i 0) :: st)) : ch_W X E nL S μ kc ks pc L (.ref (S.1 k 0 i) :: st) :=
  ca_geti (ci := 3) (j := 0) h rfl rfl li_X3 rfl hv (by decide) rfl kw_237 hd kk
theorem pi_X4_62 {X : ch_X} {E : ch_E} {cc : ByteArray} {nL : Nat} {S : ch_S} {μ : ch_M} {kc ks pc : Nat} {L : List (Nat × Value)} {st : List Value} (h : ch_H X E RX4 cc nL) {k i : Nat} {x : Int32} (hv : S.2.1 k 0 i) (hd : decode cc pc = .ok (.putfield 62, 3)) (kk : ch_W X E nL S (ch_st μ k 0 i 0 x) kc ks (pc + 3) L st) : ch_W X E nL S μ kc ks pc L (.int x :: .ref (S.1 k 0 i) :: st) :=
  ca_puti (ci := 3) (j := 0) (ty := .int) h rfl rfl li_X3 tyX3 tyX3_ok nmX3 rfl hv (by decide) rfl kw_237 rfl (by decide +kernel) rfl rfl (fun z => absurd z (by decide)) hd kk
theorem gi_X4_77 {X : ch_X} {E : ch_E} {cc : ByteArray} {nL : Nat} {S : ch_S} {μ : ch_M} {kc ks pc : Nat} {L : List (Nat × Value)} {st : List Value} (h : ch_H X E RX4 cc nL) {k i : Nat} (hv : S.2.1 k 1 i) (hd : decode cc pc = .ok (.getfield 77, 3)) (kk : ch_W X E nL S μ kc ks (pc + 3) L (.int (μ k 1 i 0) :: st)) : ch_W X E nL S μ kc ks pc L (.ref (S.1 k 1 i) :: st) :=
  ca_geti (ci := 0) (j := 0) h rfl rfl li_X0 rfl hv (by decide) rfl kw_86 hd kk
theorem pi_X4_77 {X : ch_X} {E : ch_E} {cc : ByteArray} {nL : Nat} {S : ch_S} {μ : ch_M} {kc ks pc : Nat} {L : List (Nat × Value)} {st : List Value} (h : ch_H X E RX4 cc nL) {k i : Nat} {x : Int32} (hv : S.2.1 k 1 i) (hd : decode cc pc = .ok (.putfield 77, 3)) (kk : ch_W X E nL S (ch_st μ k 1 i 0 x) kc ks (pc + 3) L st) : ch_W X E nL S μ kc ks pc L (.int x :: .ref (S.1 k 1 i) :: st) :=
  ca_puti (ci := 0) (j := 0) (ty := .int) h rfl rfl li_X0 tyX0 tyX0_ok nmX0 rfl hv (by decide) rfl kw_86 rfl (by decide +kernel) rfl rfl (fun z => absurd z (by decide)) hd kk
theorem gi_X4_82 {X : ch_X} {E : ch_E} {cc : ByteArray} {nL : Nat} {S : ch_S} {μ : ch_M} {kc ks pc : Nat} {L : List (Nat × Value)} {st : List Value} (h : ch_H X E RX4 cc nL) {k i : Nat} (hv : S.2.1 k 1 i) (hd : decode cc pc = .ok (.getfield 82, 3)) (kk : ch_W X E nL S μ kc ks (pc + 3) L (.int (μ k 1 i 1) :: st)) : ch_W X E nL S μ kc ks pc L (.ref (S.1 k 1 i) :: st) :=
  ca_geti (ci := 0) (j := 1) h rfl rfl li_X0 rfl hv (by decide) rfl kw_88 hd kk
theorem pi_X4_82 {X : ch_X} {E : ch_E} {cc : ByteArray} {nL : Nat} {S : ch_S} {μ : ch_M} {kc ks pc : Nat} {L : List (Nat × Value)} {st : List Value} (h : ch_H X E RX4 cc nL) {k i : Nat} {x : Int32} (hv : S.2.1 k 1 i) (hd : decode cc pc = .ok (.putfield 82, 3)) (kk : ch_W X E nL S (ch_st μ k 1 i 1 x) kc ks (pc + 3) L st) : ch_W X E nL S μ kc ks pc L (.int x :: .ref (S.1 k 1 i) :: st) :=
  ca_puti (ci := 0) (j := 1) (ty := .int) h rfl rfl li_X0 tyX0 tyX0_ok nmX0 rfl hv (by decide) rfl kw_88 rfl (by decide +kernel) rfl rfl (fun z => absurd z (by decide)) hd kk
theorem gi_X4_85 {X : ch_X} {E : ch_E} {cc : ByteArray} {nL : Nat} {S : ch_S} {μ : ch_M} {kc ks pc : Nat} {L : List (Nat × Value)} {st : List Value} (h : ch_H X E RX4 cc nL) {k i : Nat} (hv : S.2.1 k 1 i) (hd : decode cc pc = .ok (.getfield 85, 3)) (kk : ch_W X E nL S μ kc ks (pc + 3) L (.int (μ k 1 i 2) :: st)) : ch_W X E nL S μ kc ks pc L (.ref (S.1 k 1 i) :: st) :=
  ca_geti (ci := 0) (j := 2) h rfl rfl li_X0 rfl hv (by decide) rfl kw_90 hd kk
theorem pi_X4_85 {X : ch_X} {E : ch_E} {cc : ByteArray} {nL : Nat} {S : ch_S} {μ : ch_M} {kc ks pc : Nat} {L : List (Nat × Value)} {st : List Value} (h : ch_H X E RX4 cc nL) {k i : Nat} {x : Int32} (hv : S.2.1 k 1 i) (hd : decode cc pc = .ok (.putfield 85, 3)) (kk : ch_W X E nL S (ch_st μ k 1 i 2 x) kc ks (pc + 3) L st) : ch_W X E nL S μ kc ks pc L (.int x :: .ref (S.1 k 1 i) :: st) :=
  ca_puti (ci := 0) (j := 2) (ty := .int) h rfl rfl li_X0 tyX0 tyX0_ok nmX0 rfl hv (by decide) rfl kw_90 rfl (by decide +kernel) rfl rfl (fun z => absurd z (by decide)) hd kk
theorem gi_X4_88 {X : ch_X} {E : ch_E} {cc : ByteArray} {nL : Nat} {S : ch_S} {μ : ch_M} {kc ks pc : Nat} {L : List (Nat × Value)} {st : List Value} (h : ch_H X E RX4 cc nL) {k i : Nat} (hv : S.2.1 k 1 i) (hd : decode cc pc = .ok (.getfield 88, 3)) (kk : ch_W X E nL S μ kc ks (pc + 3) L (.int (μ k 1 i 3) :: st)) : ch_W X E nL S μ kc ks pc L (.ref (S.1 k 1 i) :: st) :=
  ca_geti (ci := 0) (j := 3) h rfl rfl li_X0 rfl hv (by decide) rfl kw_92 hd kk
theorem pi_X4_88 {X : ch_X} {E : ch_E} {cc : ByteArray} {nL : Nat} {S : ch_S} {μ : ch_M} {kc ks pc : Nat} {L : List (Nat × Value)} {st : List Value} (h : ch_H X E RX4 cc nL) {k i : Nat} {x : Int32} (hv : S.2.1 k 1 i) (hd : decode cc pc = .ok (.putfield 88, 3)) (kk : ch_W X E nL S (ch_st μ k 1 i 3 x) kc ks (pc + 3) L st) : ch_W X E nL S μ kc ks pc L (.int x :: .ref (S.1 k 1 i) :: st) :=
  ca_puti (ci := 0) (j := 3) (ty := .int) h rfl rfl li_X0 tyX0 tyX0_ok nmX0 rfl hv (by decide) rfl kw_92 rfl (by decide +kernel) rfl rfl (fun z => absurd z (by decide)) hd kk
theorem gi_X4_91 {X : ch_X} {E : ch_E} {cc : ByteArray} {nL : Nat} {S : ch_S} {μ : ch_M} {kc ks pc : Nat} {L : List (Nat × Value)} {st : List Value} (h : ch_H X E RX4 cc nL) {k i : Nat} (hv : S.2.1 k 1 i) (hd : decode cc pc = .ok (.getfield 91, 3)) (kk : ch_W X E nL S μ kc ks (pc + 3) L (.int (μ k 1 i 4) :: st)) : ch_W X E nL S μ kc ks pc L (.ref (S.1 k 1 i) :: st) :=
  ca_geti (ci := 0) (j := 4) h rfl rfl li_X0 rfl hv (by decide) rfl kw_94 hd kk
theorem pi_X4_91 {X : ch_X} {E : ch_E} {cc : ByteArray} {nL : Nat} {S : ch_S} {μ : ch_M} {kc ks pc : Nat} {L : List (Nat × Value)} {st : List Value} (h : ch_H X E RX4 cc nL) {k i : Nat} {x : Int32} (hv : S.2.1 k 1 i) (hd : decode cc pc = .ok (.putfield 91, 3)) (kk : ch_W X E nL S (ch_st μ k 1 i 4 x) kc ks (pc + 3) L st) : ch_W X E nL S μ kc ks pc L (.int x :: .ref (S.1 k 1 i) :: st) :=
  ca_puti (ci := 0) (j := 4) (ty := .int) h rfl rfl li_X0 tyX0 tyX0_ok nmX0 rfl hv (by decide) rfl kw_94 rfl (by decide +kernel) rfl rfl (fun z => absurd z (by decide)) hd kk
theorem gi_X4_94 {X : ch_X} {E : ch_E} {cc : ByteArray} {nL : Nat} {S : ch_S} {μ : ch_M} {kc ks pc : Nat} {L : List (Nat × Value)} {st : List Value} (h : ch_H X E RX4 cc nL) {k i : Nat} (hv : S.2.1 k 1 i) (hd : decode cc pc = .ok (.getfield 94, 3)) (kk : ch_W X E nL S μ kc ks (pc + 3) L (.int (μ k 1 i 5) :: st)) : ch_W X E nL S μ kc ks pc L (.ref (S.1 k 1 i) :: st) :=
  ca_geti (ci := 0) (j := 5) h rfl rfl li_X0 rfl hv (by decide) rfl kw_97 hd kk
theorem pi_X4_94 {X : ch_X} {E : ch_E} {cc : ByteArray} {nL : Nat} {S : ch_S} {μ : ch_M} {kc ks pc : Nat} {L : List (Nat × Value)} {st : List Value} (h : ch_H X E RX4 cc nL) {k i : Nat} {x : Int32} (hv : S.2.1 k 1 i) (hd : decode cc pc = .ok (.putfield 94, 3)) (kk : ch_W X E nL S (ch_st μ k 1 i 5 x) kc ks (pc + 3) L st) : ch_W X E nL S μ kc ks pc L (.int x :: .ref (S.1 k 1 i) :: st) :=
  ca_puti (ci := 0) (j := 5) (ty := .int) h rfl rfl li_X0 tyX0 tyX0_ok nmX0 rfl hv (by decide) rfl kw_97 rfl (by decide +kernel) rfl rfl (fun z => absurd z (by decide)) hd kk
theorem gi_X4_97 {X : ch_X} {E : ch_E} {cc : ByteArray} {nL : Nat} {S : ch_S} {μ : ch_M} {kc ks pc : Nat} {L : List (Nat × Value)} {st : List Value} (h : ch_H X E RX4 cc nL) {k i : Nat} (hv : S.2.1 k 1 i) (hd : decode cc pc = .ok (.getfield 97, 3)) (kk : ch_W X E nL S μ kc ks (pc + 3) L (.int (μ k 1 i 6) :: st)) : ch_W X E nL S μ kc ks pc L (.ref (S.1 k 1 i) :: st) :=
  ca_geti (ci := 0) (j := 6) h rfl rfl li_X0 rfl hv (by decide) rfl kw_101 hd kk
theorem pi_X4_97 {X : ch_X} {E : ch_E} {cc : ByteArray} {nL : Nat} {S : ch_S} {μ : ch_M} {kc ks pc : Nat} {L : List (Nat × Value)} {st : List Value} (h : ch_H X E RX4 cc nL) {k i : Nat} {x : Int32} (hv : S.2.1 k 1 i) (hd : decode cc pc = .ok (.putfield 97, 3)) (kk : ch_W X E nL S (ch_st μ k 1 i 6 x) kc ks (pc + 3) L st) : ch_W X E nL S μ kc ks pc L (.int x :: .ref (S.1 k 1 i) :: st) :=
  ca_puti (ci := 0) (j := 6) (ty := .int) h rfl rfl li_X0 tyX0 tyX0_ok nmX0 rfl hv (by decide) rfl kw_101 rfl (by decide +kernel) rfl rfl (fun z => absurd z (by decide)) hd kk
theorem gi_X4_100 {X : ch_X} {E : ch_E} {cc : ByteArray} {nL : Nat} {S : ch_S} {μ : ch_M} {kc ks pc : Nat} {L : List (Nat × Value)} {st : List Value} (h : ch_H X E RX4 cc nL) {k i : Nat} (hv : S.2.1 k 1 i) (hd : decode cc pc = .ok (.getfield 100, 3)) (kk : ch_W X E nL S μ kc ks (pc + 3) L (.int (μ k 1 i 7) :: st)) : ch_W X E nL S μ kc ks pc L (.ref (S.1 k 1 i) :: st) :=
  ca_geti (ci := 0) (j := 7) h rfl rfl li_X0 rfl hv (by decide) rfl kw_105 hd kk
theorem pi_X4_100 {X : ch_X} {E : ch_E} {cc : ByteArray} {nL : Nat} {S : ch_S} {μ : ch_M} {kc ks pc : Nat} {L : List (Nat × Value)} {st : List Value} (h : ch_H X E RX4 cc nL) {k i : Nat} {x : Int32} (hv : S.2.1 k 1 i) (hd : decode cc pc = .ok (.putfield 100, 3)) (kk : ch_W X E nL S (ch_st μ k 1 i 7 x) kc ks (pc + 3) L st) : ch_W X E nL S μ kc ks pc L (.int x :: .ref (S.1 k 1 i) :: st) :=
  ca_puti (ci := 0) (j := 7) (ty := .int) h rfl rfl li_X0 tyX0 tyX0_ok nmX0 rfl hv (by decide) rfl kw_105 rfl (by decide +kernel) rfl rfl (fun z => absurd z (by decide)) hd kk
theorem gi_X4_103 {X : ch_X} {E : ch_E} {cc : ByteArray} {nL : Nat} {S : ch_S} {μ : ch_M} {kc ks pc : Nat} {L : List (Nat × Value)} {st : List Value} (h : ch_H X E RX4 cc nL) {k i : Nat} (hv : S.2.1 k 1 i) (hd : decode cc pc = .ok (.getfield 103, 3)) (kk : ch_W X E nL S μ kc ks (pc + 3) L (.int (μ k 1 i 8) :: st)) : ch_W X E nL S μ kc ks pc L (.ref (S.1 k 1 i) :: st) :=
  ca_geti (ci := 0) (j := 8) h rfl rfl li_X0 rfl hv (by decide) rfl kw_107 hd kk
theorem pi_X4_103 {X : ch_X} {E : ch_E} {cc : ByteArray} {nL : Nat} {S : ch_S} {μ : ch_M} {kc ks pc : Nat} {L : List (Nat × Value)} {st : List Value} (h : ch_H X E RX4 cc nL) {k i : Nat} {x : Int32} (hv : S.2.1 k 1 i) (hd : decode cc pc = .ok (.putfield 103, 3)) (kk : ch_W X E nL S (ch_st μ k 1 i 8 x) kc ks (pc + 3) L st) : ch_W X E nL S μ kc ks pc L (.int x :: .ref (S.1 k 1 i) :: st) :=
  ca_puti (ci := 0) (j := 8) (ty := .int) h rfl rfl li_X0 tyX0 tyX0_ok nmX0 rfl hv (by decide) rfl kw_107 rfl (by decide +kernel) rfl rfl (fun z => absurd z (by decide)) hd kk
theorem gi_X4_106 {X : ch_X} {E : ch_E} {cc : ByteArray} {nL : Nat} {S : ch_S} {μ : ch_M} {kc ks pc : Nat} {L : List (Nat × Value)} {st : List Value} (h : ch_H X E RX4 cc nL) {k i : Nat} (hv : S.2.1 k 0 i) (hd : decode cc pc = .ok (.getfield 106, 3)) (kk : ch_W X E nL S μ kc ks (pc + 3) L (.int (μ k 0 i 1) :: st)) : ch_W X E nL S μ kc ks pc L (.ref (S.1 k 0 i) :: st) :=
  ca_geti (ci := 3) (j := 1) h rfl rfl li_X3 rfl hv (by decide) rfl kw_240 hd kk
theorem pi_X4_106 {X : ch_X} {E : ch_E} {cc : ByteArray} {nL : Nat} {S : ch_S} {μ : ch_M} {kc ks pc : Nat} {L : List (Nat × Value)} {st : List Value} (h : ch_H X E RX4 cc nL) {k i : Nat} {x : Int32} (hv : S.2.1 k 0 i) (hd : decode cc pc = .ok (.putfield 106, 3)) (kk : ch_W X E nL S (ch_st μ k 0 i 1 x) kc ks (pc + 3) L st) : ch_W X E nL S μ kc ks pc L (.int x :: .ref (S.1 k 0 i) :: st) :=
  ca_puti (ci := 3) (j := 1) (ty := .int) h rfl rfl li_X3 tyX3 tyX3_ok nmX3 rfl hv (by decide) rfl kw_240 rfl (by decide +kernel) rfl rfl (fun z => absurd z (by decide)) hd kk
theorem gi_X4_116 {X : ch_X} {E : ch_E} {cc : ByteArray} {nL : Nat} {S : ch_S} {μ : ch_M} {kc ks pc : Nat} {L : List (Nat × Value)} {st : List Value} (h : ch_H X E RX4 cc nL) {k i : Nat} (hv : S.2.1 k 2 i) (hd : decode cc pc = .ok (.getfield 116, 3)) (kk : ch_W X E nL S μ kc ks (pc + 3) L (.int (μ k 2 i 0) :: st)) : ch_W X E nL S μ kc ks pc L (.ref (S.1 k 2 i) :: st) :=
  ca_geti (ci := 7) (j := 0) h rfl rfl li_X7 rfl hv (by decide) rfl kw_136 hd kk
theorem pi_X4_116 {X : ch_X} {E : ch_E} {cc : ByteArray} {nL : Nat} {S : ch_S} {μ : ch_M} {kc ks pc : Nat} {L : List (Nat × Value)} {st : List Value} (h : ch_H X E RX4 cc nL) {k i : Nat} {x : Int32} (hv : S.2.1 k 2 i) (hx : x = 0 ∨ x = 1) (hd : decode cc pc = .ok (.putfield 116, 3)) (kk : ch_W X E nL S (ch_st μ k 2 i 0 x) kc ks (pc + 3) L st) : ch_W X E nL S μ kc ks pc L (.int x :: .ref (S.1 k 2 i) :: st) :=
  ca_puti (ci := 7) (j := 0) (ty := .boolean) h rfl rfl li_X7 tyX7 tyX7_ok nmX7 rfl hv (by decide) rfl kw_136 rfl (by decide +kernel) (by rcases hx with rfl | rfl <;> decide) (by rcases hx with rfl | rfl <;> decide) (fun _ => hx) hd kk
theorem gi_X4_122 {X : ch_X} {E : ch_E} {cc : ByteArray} {nL : Nat} {S : ch_S} {μ : ch_M} {kc ks pc : Nat} {L : List (Nat × Value)} {st : List Value} (h : ch_H X E RX4 cc nL) {k i : Nat} (hv : S.2.1 k 2 i) (hd : decode cc pc = .ok (.getfield 122, 3)) (kk : ch_W X E nL S μ kc ks (pc + 3) L (.int (μ k 2 i 1) :: st)) : ch_W X E nL S μ kc ks pc L (.ref (S.1 k 2 i) :: st) :=
  ca_geti (ci := 7) (j := 1) h rfl rfl li_X7 rfl hv (by decide) rfl kw_142 hd kk
theorem pi_X4_122 {X : ch_X} {E : ch_E} {cc : ByteArray} {nL : Nat} {S : ch_S} {μ : ch_M} {kc ks pc : Nat} {L : List (Nat × Value)} {st : List Value} (h : ch_H X E RX4 cc nL) {k i : Nat} {x : Int32} (hv : S.2.1 k 2 i) (hd : decode cc pc = .ok (.putfield 122, 3)) (kk : ch_W X E nL S (ch_st μ k 2 i 1 x) kc ks (pc + 3) L st) : ch_W X E nL S μ kc ks pc L (.int x :: .ref (S.1 k 2 i) :: st) :=
  ca_puti (ci := 7) (j := 1) (ty := .int) h rfl rfl li_X7 tyX7 tyX7_ok nmX7 rfl hv (by decide) rfl kw_142 rfl (by decide +kernel) rfl rfl (fun z => absurd z (by decide)) hd kk
theorem gi_X4_125 {X : ch_X} {E : ch_E} {cc : ByteArray} {nL : Nat} {S : ch_S} {μ : ch_M} {kc ks pc : Nat} {L : List (Nat × Value)} {st : List Value} (h : ch_H X E RX4 cc nL) {k i : Nat} (hv : S.2.1 k 0 i) (hd : decode cc pc = .ok (.getfield 125, 3)) (kk : ch_W X E nL S μ kc ks (pc + 3) L (.int (μ k 0 i 4) :: st)) : ch_W X E nL S μ kc ks pc L (.ref (S.1 k 0 i) :: st) :=
  ca_geti (ci := 3) (j := 4) h rfl rfl li_X3 rfl hv (by decide) rfl kw_250 hd kk
theorem pi_X4_125 {X : ch_X} {E : ch_E} {cc : ByteArray} {nL : Nat} {S : ch_S} {μ : ch_M} {kc ks pc : Nat} {L : List (Nat × Value)} {st : List Value} (h : ch_H X E RX4 cc nL) {k i : Nat} {x : Int32} (hv : S.2.1 k 0 i) (hd : decode cc pc = .ok (.putfield 125, 3)) (kk : ch_W X E nL S (ch_st μ k 0 i 4 x) kc ks (pc + 3) L st) : ch_W X E nL S μ kc ks pc L (.int x :: .ref (S.1 k 0 i) :: st) :=
  ca_puti (ci := 3) (j := 4) (ty := .int) h rfl rfl li_X3 tyX3 tyX3_ok nmX3 rfl hv (by decide) rfl kw_250 rfl (by decide +kernel) rfl rfl (fun z => absurd z (by decide)) hd kk
theorem gi_X4_128 {X : ch_X} {E : ch_E} {cc : ByteArray} {nL : Nat} {S : ch_S} {μ : ch_M} {kc ks pc : Nat} {L : List (Nat × Value)} {st : List Value} (h : ch_H X E RX4 cc nL) {k i : Nat} (hv : S.2.1 k 0 i) (hd : decode cc pc = .ok (.getfield 128, 3)) (kk : ch_W X E nL S μ kc ks (pc + 3) L (.int (μ k 0 i 5) :: st)) : ch_W X E nL S μ kc ks pc L (.ref (S.1 k 0 i) :: st) :=
  ca_geti (ci := 3) (j := 5) h rfl rfl li_X3 rfl hv (by decide) rfl kw_254 hd kk
theorem pi_X4_128 {X : ch_X} {E : ch_E} {cc : ByteArray} {nL : Nat} {S : ch_S} {μ : ch_M} {kc ks pc : Nat} {L : List (Nat × Value)} {st : List Value} (h : ch_H X E RX4 cc nL) {k i : Nat} {x : Int32} (hv : S.2.1 k 0 i) (hd : decode cc pc = .ok (.putfield 128, 3)) (kk : ch_W X E nL S (ch_st μ k 0 i 5 x) kc ks (pc + 3) L st) : ch_W X E nL S μ kc ks pc L (.int x :: .ref (S.1 k 0 i) :: st) :=
  ca_puti (ci := 3) (j := 5) (ty := .int) h rfl rfl li_X3 tyX3 tyX3_ok nmX3 rfl hv (by decide) rfl kw_254 rfl (by decide +kernel) rfl rfl (fun z => absurd z (by decide)) hd kk
theorem gi_X4_131 {X : ch_X} {E : ch_E} {cc : ByteArray} {nL : Nat} {S : ch_S} {μ : ch_M} {kc ks pc : Nat} {L : List (Nat × Value)} {st : List Value} (h : ch_H X E RX4 cc nL) {k i : Nat} (hv : S.2.1 k 0 i) (hd : decode cc pc = .ok (.getfield 131, 3)) (kk : ch_W X E nL S μ kc ks (pc + 3) L (.int (μ k 0 i 6) :: st)) : ch_W X E nL S μ kc ks pc L (.ref (S.1 k 0 i) :: st) :=
  ca_geti (ci := 3) (j := 6) h rfl rfl li_X3 rfl hv (by decide) rfl kw_256 hd kk
theorem pi_X4_131 {X : ch_X} {E : ch_E} {cc : ByteArray} {nL : Nat} {S : ch_S} {μ : ch_M} {kc ks pc : Nat} {L : List (Nat × Value)} {st : List Value} (h : ch_H X E RX4 cc nL) {k i : Nat} {x : Int32} (hv : S.2.1 k 0 i) (hd : decode cc pc = .ok (.putfield 131, 3)) (kk : ch_W X E nL S (ch_st μ k 0 i 6 x) kc ks (pc + 3) L st) : ch_W X E nL S μ kc ks pc L (.int x :: .ref (S.1 k 0 i) :: st) :=
  ca_puti (ci := 3) (j := 6) (ty := .int) h rfl rfl li_X3 tyX3 tyX3_ok nmX3 rfl hv (by decide) rfl kw_256 rfl (by decide +kernel) rfl rfl (fun z => absurd z (by decide)) hd kk
theorem gi_X4_134 {X : ch_X} {E : ch_E} {cc : ByteArray} {nL : Nat} {S : ch_S} {μ : ch_M} {kc ks pc : Nat} {L : List (Nat × Value)} {st : List Value} (h : ch_H X E RX4 cc nL) {k i : Nat} (hv : S.2.1 k 0 i) (hd : decode cc pc = .ok (.getfield 134, 3)) (kk : ch_W X E nL S μ kc ks (pc + 3) L (.int (μ k 0 i 7) :: st)) : ch_W X E nL S μ kc ks pc L (.ref (S.1 k 0 i) :: st) :=
  ca_geti (ci := 3) (j := 7) h rfl rfl li_X3 rfl hv (by decide) rfl kw_258 hd kk
theorem pi_X4_134 {X : ch_X} {E : ch_E} {cc : ByteArray} {nL : Nat} {S : ch_S} {μ : ch_M} {kc ks pc : Nat} {L : List (Nat × Value)} {st : List Value} (h : ch_H X E RX4 cc nL) {k i : Nat} {x : Int32} (hv : S.2.1 k 0 i) (hd : decode cc pc = .ok (.putfield 134, 3)) (kk : ch_W X E nL S (ch_st μ k 0 i 7 x) kc ks (pc + 3) L st) : ch_W X E nL S μ kc ks pc L (.int x :: .ref (S.1 k 0 i) :: st) :=
  ca_puti (ci := 3) (j := 7) (ty := .int) h rfl rfl li_X3 tyX3 tyX3_ok nmX3 rfl hv (by decide) rfl kw_258 rfl (by decide +kernel) rfl rfl (fun z => absurd z (by decide)) hd kk
theorem gi_X4_137 {X : ch_X} {E : ch_E} {cc : ByteArray} {nL : Nat} {S : ch_S} {μ : ch_M} {kc ks pc : Nat} {L : List (Nat × Value)} {st : List Value} (h : ch_H X E RX4 cc nL) {k i : Nat} (hv : S.2.1 k 0 i) (hd : decode cc pc = .ok (.getfield 137, 3)) (kk : ch_W X E nL S μ kc ks (pc + 3) L (.int (μ k 0 i 8) :: st)) : ch_W X E nL S μ kc ks pc L (.ref (S.1 k 0 i) :: st) :=
  ca_geti (ci := 3) (j := 8) h rfl rfl li_X3 rfl hv (by decide) rfl kw_261 hd kk
theorem pi_X4_137 {X : ch_X} {E : ch_E} {cc : ByteArray} {nL : Nat} {S : ch_S} {μ : ch_M} {kc ks pc : Nat} {L : List (Nat × Value)} {st : List Value} (h : ch_H X E RX4 cc nL) {k i : Nat} {x : Int32} (hv : S.2.1 k 0 i) (hd : decode cc pc = .ok (.putfield 137, 3)) (kk : ch_W X E nL S (ch_st μ k 0 i 8 x) kc ks (pc + 3) L st) : ch_W X E nL S μ kc ks pc L (.int x :: .ref (S.1 k 0 i) :: st) :=
  ca_puti (ci := 3) (j := 8) (ty := .int) h rfl rfl li_X3 tyX3 tyX3_ok nmX3 rfl hv (by decide) rfl kw_261 rfl (by decide +kernel) rfl rfl (fun z => absurd z (by decide)) hd kk
theorem gi_X4_140 {X : ch_X} {E : ch_E} {cc : ByteArray} {nL : Nat} {S : ch_S} {μ : ch_M} {kc ks pc : Nat} {L : List (Nat × Value)} {st : List Value} (h : ch_H X E RX4 cc nL) {k i : Nat} (hv : S.2.1 k 0 i) (hd : decode cc pc = .ok (.getfield 140, 3)) (kk : ch_W X E nL S μ kc ks (pc + 3) L (.int (μ k 0 i 9) :: st)) : ch_W X E nL S μ kc ks pc L (.ref (S.1 k 0 i) :: st) :=
  ca_geti (ci := 3) (j := 9) h rfl rfl li_X3 rfl hv (by decide) rfl kw_264 hd kk
theorem pi_X4_140 {X : ch_X} {E : ch_E} {cc : ByteArray} {nL : Nat} {S : ch_S} {μ : ch_M} {kc ks pc : Nat} {L : List (Nat × Value)} {st : List Value} (h : ch_H X E RX4 cc nL) {k i : Nat} {x : Int32} (hv : S.2.1 k 0 i) (hd : decode cc pc = .ok (.putfield 140, 3)) (kk : ch_W X E nL S (ch_st μ k 0 i 9 x) kc ks (pc + 3) L st) : ch_W X E nL S μ kc ks pc L (.int x :: .ref (S.1 k 0 i) :: st) :=
  ca_puti (ci := 3) (j := 9) (ty := .int) h rfl rfl li_X3 tyX3 tyX3_ok nmX3 rfl hv (by decide) rfl kw_264 rfl (by decide +kernel) rfl rfl (fun z => absurd z (by decide)) hd kk
theorem gr_X6_9 {X : ch_X} {E : ch_E} {cc : ByteArray} {nL : Nat} {S : ch_S} {μ : ch_M} {kc ks pc : Nat} {L : List (Nat × Value)} {st : List Value} (h : ch_H X E RX6 cc nL) {k i : Nat} {r : Option Nat} (hv : S.2.1 k 17 i) (hx : S.2.2 k 17 i 2 = r) (hd : decode cc pc = .ok (.getfield 9, 3)) (kk : ch_W X E nL S μ kc ks (pc + 3) L (va_rf r :: st)) : ch_W X E nL S μ kc ks pc L (.ref (S.1 k 17 i) :: st) :=
  ca_getr (ci := 6) (j := 2) h rfl rfl li_X6 rfl hv (by decide) rfl kw_344 hx hd kk
theorem gs_X6_9 {X : ch_X} {E : ch_E} {cc : ByteArray} {nL : Nat} {S : ch_S} {μ : ch_M} {kc ks pc : Nat} {L : List (Nat × Value)} {st : List Value} (h : ch_H X E RX6 cc nL) {k i : Nat} (hs : ch_Std E S) (hv : ch_V k 17 i) (hd : decode cc pc = .ok (.getfield 9, 3)) (kk : ch_W X E nL S μ kc ks (pc + 3) L (.ref (S.1 15 18 0) :: st)) : ch_W X E nL S μ kc ks pc L (.ref (S.1 k 17 i) :: st) :=
  gr_X6_9 h (hs.1 _ _ _ hv) (hs.2.1 k 17 i 2 _ hv rfl) hd kk
theorem gr_X6_15 {X : ch_X} {E : ch_E} {cc : ByteArray} {nL : Nat} {S : ch_S} {μ : ch_M} {kc ks pc : Nat} {L : List (Nat × Value)} {st : List Value} (h : ch_H X E RX6 cc nL) {k i : Nat} {r : Option Nat} (hv : S.2.1 k 17 i) (hx : S.2.2 k 17 i 3 = r) (hd : decode cc pc = .ok (.getfield 15, 3)) (kk : ch_W X E nL S μ kc ks (pc + 3) L (va_rf r :: st)) : ch_W X E nL S μ kc ks pc L (.ref (S.1 k 17 i) :: st) :=
  ca_getr (ci := 6) (j := 3) h rfl rfl li_X6 rfl hv (by decide) rfl kw_345 hx hd kk
theorem gs_X6_15 {X : ch_X} {E : ch_E} {cc : ByteArray} {nL : Nat} {S : ch_S} {μ : ch_M} {kc ks pc : Nat} {L : List (Nat × Value)} {st : List Value} (h : ch_H X E RX6 cc nL) {k i : Nat} (hs : ch_Std E S) (hv : ch_V k 17 i) (hd : decode cc pc = .ok (.getfield 15, 3)) (kk : ch_W X E nL S μ kc ks (pc + 3) L (.ref (S.1 15 19 0) :: st)) : ch_W X E nL S μ kc ks pc L (.ref (S.1 k 17 i) :: st) :=
  gr_X6_15 h (hs.1 _ _ _ hv) (hs.2.1 k 17 i 3 _ hv rfl) hd kk
theorem gi_X6_18 {X : ch_X} {E : ch_E} {cc : ByteArray} {nL : Nat} {S : ch_S} {μ : ch_M} {kc ks pc : Nat} {L : List (Nat × Value)} {st : List Value} (h : ch_H X E RX6 cc nL) {k i : Nat} (hv : S.2.1 k 17 i) (hd : decode cc pc = .ok (.getfield 18, 3)) (kk : ch_W X E nL S μ kc ks (pc + 3) L (.int (μ k 17 i 0) :: st)) : ch_W X E nL S μ kc ks pc L (.ref (S.1 k 17 i) :: st) :=
  ca_geti (ci := 6) (j := 0) h rfl rfl li_X6 rfl hv (by decide) rfl kw_340 hd kk
theorem pi_X6_18 {X : ch_X} {E : ch_E} {cc : ByteArray} {nL : Nat} {S : ch_S} {μ : ch_M} {kc ks pc : Nat} {L : List (Nat × Value)} {st : List Value} (h : ch_H X E RX6 cc nL) {k i : Nat} {x : Int32} (hv : S.2.1 k 17 i) (hd : decode cc pc = .ok (.putfield 18, 3)) (kk : ch_W X E nL S (ch_st μ k 17 i 0 x) kc ks (pc + 3) L st) : ch_W X E nL S μ kc ks pc L (.int x :: .ref (S.1 k 17 i) :: st) :=
  ca_puti (ci := 6) (j := 0) (ty := .int) h rfl rfl li_X6 tyX6 tyX6_ok nmX6 rfl hv (by decide) rfl kw_340 rfl (by decide +kernel) rfl rfl (fun z => absurd z (by decide)) hd kk
theorem gi_X6_22 {X : ch_X} {E : ch_E} {cc : ByteArray} {nL : Nat} {S : ch_S} {μ : ch_M} {kc ks pc : Nat} {L : List (Nat × Value)} {st : List Value} (h : ch_H X E RX6 cc nL) {k i : Nat} (hv : S.2.1 k 17 i) (hd : decode cc pc = .ok (.getfield 22, 3)) (kk : ch_W X E nL S μ kc ks (pc + 3) L (.int (μ k 17 i 1) :: st)) : ch_W X E nL S μ kc ks pc L (.ref (S.1 k 17 i) :: st) :=
  ca_geti (ci := 6) (j := 1) h rfl rfl li_X6 rfl hv (by decide) rfl kw_342 hd kk
theorem pi_X6_22 {X : ch_X} {E : ch_E} {cc : ByteArray} {nL : Nat} {S : ch_S} {μ : ch_M} {kc ks pc : Nat} {L : List (Nat × Value)} {st : List Value} (h : ch_H X E RX6 cc nL) {k i : Nat} {x : Int32} (hv : S.2.1 k 17 i) (hx : x = 0 ∨ x = 1) (hd : decode cc pc = .ok (.putfield 22, 3)) (kk : ch_W X E nL S (ch_st μ k 17 i 1 x) kc ks (pc + 3) L st) : ch_W X E nL S μ kc ks pc L (.int x :: .ref (S.1 k 17 i) :: st) :=
  ca_puti (ci := 6) (j := 1) (ty := .boolean) h rfl rfl li_X6 tyX6 tyX6_ok nmX6 rfl hv (by decide) rfl kw_342 rfl (by decide +kernel) (by rcases hx with rfl | rfl <;> decide) (by rcases hx with rfl | rfl <;> decide) (fun _ => hx) hd kk
theorem gi_X6_26 {X : ch_X} {E : ch_E} {cc : ByteArray} {nL : Nat} {S : ch_S} {μ : ch_M} {kc ks pc : Nat} {L : List (Nat × Value)} {st : List Value} (h : ch_H X E RX6 cc nL) {k i : Nat} (hv : S.2.1 k 3 i) (hd : decode cc pc = .ok (.getfield 26, 3)) (kk : ch_W X E nL S μ kc ks (pc + 3) L (.int (μ k 3 i 5) :: st)) : ch_W X E nL S μ kc ks pc L (.ref (S.1 k 3 i) :: st) :=
  ca_geti (ci := 2) (j := 5) h rfl rfl li_X2 rfl hv (by decide) rfl kw_183 hd kk
theorem pi_X6_26 {X : ch_X} {E : ch_E} {cc : ByteArray} {nL : Nat} {S : ch_S} {μ : ch_M} {kc ks pc : Nat} {L : List (Nat × Value)} {st : List Value} (h : ch_H X E RX6 cc nL) {k i : Nat} {x : Int32} (hv : S.2.1 k 3 i) (hd : decode cc pc = .ok (.putfield 26, 3)) (kk : ch_W X E nL S (ch_st μ k 3 i 5 x) kc ks (pc + 3) L st) : ch_W X E nL S μ kc ks pc L (.int x :: .ref (S.1 k 3 i) :: st) :=
  ca_puti (ci := 2) (j := 5) (ty := .int) h rfl rfl li_X2 tyX2 tyX2_ok nmX2 rfl hv (by decide) rfl kw_183 rfl (by decide +kernel) rfl rfl (fun z => absurd z (by decide)) hd kk
theorem gi_X6_41 {X : ch_X} {E : ch_E} {cc : ByteArray} {nL : Nat} {S : ch_S} {μ : ch_M} {kc ks pc : Nat} {L : List (Nat × Value)} {st : List Value} (h : ch_H X E RX6 cc nL) {k i : Nat} (hv : S.2.1 k 1 i) (hd : decode cc pc = .ok (.getfield 41, 3)) (kk : ch_W X E nL S μ kc ks (pc + 3) L (.int (μ k 1 i 7) :: st)) : ch_W X E nL S μ kc ks pc L (.ref (S.1 k 1 i) :: st) :=
  ca_geti (ci := 0) (j := 7) h rfl rfl li_X0 rfl hv (by decide) rfl kw_103 hd kk
theorem pi_X6_41 {X : ch_X} {E : ch_E} {cc : ByteArray} {nL : Nat} {S : ch_S} {μ : ch_M} {kc ks pc : Nat} {L : List (Nat × Value)} {st : List Value} (h : ch_H X E RX6 cc nL) {k i : Nat} {x : Int32} (hv : S.2.1 k 1 i) (hd : decode cc pc = .ok (.putfield 41, 3)) (kk : ch_W X E nL S (ch_st μ k 1 i 7 x) kc ks (pc + 3) L st) : ch_W X E nL S μ kc ks pc L (.int x :: .ref (S.1 k 1 i) :: st) :=
  ca_puti (ci := 0) (j := 7) (ty := .int) h rfl rfl li_X0 tyX0 tyX0_ok nmX0 rfl hv (by decide) rfl kw_103 rfl (by decide +kernel) rfl rfl (fun z => absurd z (by decide)) hd kk
theorem gi_X6_46 {X : ch_X} {E : ch_E} {cc : ByteArray} {nL : Nat} {S : ch_S} {μ : ch_M} {kc ks pc : Nat} {L : List (Nat × Value)} {st : List Value} (h : ch_H X E RX6 cc nL) {k i : Nat} (hv : S.2.1 k 0 i) (hd : decode cc pc = .ok (.getfield 46, 3)) (kk : ch_W X E nL S μ kc ks (pc + 3) L (.int (μ k 0 i 0) :: st)) : ch_W X E nL S μ kc ks pc L (.ref (S.1 k 0 i) :: st) :=
  ca_geti (ci := 3) (j := 0) h rfl rfl li_X3 rfl hv (by decide) rfl kw_235 hd kk
theorem pi_X6_46 {X : ch_X} {E : ch_E} {cc : ByteArray} {nL : Nat} {S : ch_S} {μ : ch_M} {kc ks pc : Nat} {L : List (Nat × Value)} {st : List Value} (h : ch_H X E RX6 cc nL) {k i : Nat} {x : Int32} (hv : S.2.1 k 0 i) (hd : decode cc pc = .ok (.putfield 46, 3)) (kk : ch_W X E nL S (ch_st μ k 0 i 0 x) kc ks (pc + 3) L st) : ch_W X E nL S μ kc ks pc L (.int x :: .ref (S.1 k 0 i) :: st) :=
  ca_puti (ci := 3) (j := 0) (ty := .int) h rfl rfl li_X3 tyX3 tyX3_ok nmX3 rfl hv (by decide) rfl kw_235 rfl (by decide +kernel) rfl rfl (fun z => absurd z (by decide)) hd kk
theorem gi_X6_61 {X : ch_X} {E : ch_E} {cc : ByteArray} {nL : Nat} {S : ch_S} {μ : ch_M} {kc ks pc : Nat} {L : List (Nat × Value)} {st : List Value} (h : ch_H X E RX6 cc nL) {k i : Nat} (hv : S.2.1 k 2 i) (hd : decode cc pc = .ok (.getfield 61, 3)) (kk : ch_W X E nL S μ kc ks (pc + 3) L (.int (μ k 2 i 0) :: st)) : ch_W X E nL S μ kc ks pc L (.ref (S.1 k 2 i) :: st) :=
  ca_geti (ci := 7) (j := 0) h rfl rfl li_X7 rfl hv (by decide) rfl kw_135 hd kk
theorem pi_X6_61 {X : ch_X} {E : ch_E} {cc : ByteArray} {nL : Nat} {S : ch_S} {μ : ch_M} {kc ks pc : Nat} {L : List (Nat × Value)} {st : List Value} (h : ch_H X E RX6 cc nL) {k i : Nat} {x : Int32} (hv : S.2.1 k 2 i) (hx : x = 0 ∨ x = 1) (hd : decode cc pc = .ok (.putfield 61, 3)) (kk : ch_W X E nL S (ch_st μ k 2 i 0 x) kc ks (pc + 3) L st) : ch_W X E nL S μ kc ks pc L (.int x :: .ref (S.1 k 2 i) :: st) :=
  ca_puti (ci := 7) (j := 0) (ty := .boolean) h rfl rfl li_X7 tyX7 tyX7_ok nmX7 rfl hv (by decide) rfl kw_135 rfl (by decide +kernel) (by rcases hx with rfl | rfl <;> decide) (by rcases hx with rfl | rfl <;> decide) (fun _ => hx) hd kk
theorem gi_X6_69 {X : ch_X} {E : ch_E} {cc : ByteArray} {nL : Nat} {S : ch_S} {μ : ch_M} {kc ks pc : Nat} {L : List (Nat × Value)} {st : List Value} (h : ch_H X E RX6 cc nL) {k i : Nat} (hv : S.2.1 k 0 i) (hd : decode cc pc = .ok (.getfield 69, 3)) (kk : ch_W X E nL S μ kc ks (pc + 3) L (.int (μ k 0 i 5) :: st)) : ch_W X E nL S μ kc ks pc L (.ref (S.1 k 0 i) :: st) :=
  ca_geti (ci := 3) (j := 5) h rfl rfl li_X3 rfl hv (by decide) rfl kw_253 hd kk
theorem pi_X6_69 {X : ch_X} {E : ch_E} {cc : ByteArray} {nL : Nat} {S : ch_S} {μ : ch_M} {kc ks pc : Nat} {L : List (Nat × Value)} {st : List Value} (h : ch_H X E RX6 cc nL) {k i : Nat} {x : Int32} (hv : S.2.1 k 0 i) (hd : decode cc pc = .ok (.putfield 69, 3)) (kk : ch_W X E nL S (ch_st μ k 0 i 5 x) kc ks (pc + 3) L st) : ch_W X E nL S μ kc ks pc L (.int x :: .ref (S.1 k 0 i) :: st) :=
  ca_puti (ci := 3) (j := 5) (ty := .int) h rfl rfl li_X3 tyX3 tyX3_ok nmX3 rfl hv (by decide) rfl kw_253 rfl (by decide +kernel) rfl rfl (fun z => absurd z (by decide)) hd kk
theorem gi_X6_72 {X : ch_X} {E : ch_E} {cc : ByteArray} {nL : Nat} {S : ch_S} {μ : ch_M} {kc ks pc : Nat} {L : List (Nat × Value)} {st : List Value} (h : ch_H X E RX6 cc nL) {k i : Nat} (hv : S.2.1 k 0 i) (hd : decode cc pc = .ok (.getfield 72, 3)) (kk : ch_W X E nL S μ kc ks (pc + 3) L (.int (μ k 0 i 3) :: st)) : ch_W X E nL S μ kc ks pc L (.ref (S.1 k 0 i) :: st) :=
  ca_geti (ci := 3) (j := 3) h rfl rfl li_X3 rfl hv (by decide) rfl kw_246 hd kk
theorem pi_X6_72 {X : ch_X} {E : ch_E} {cc : ByteArray} {nL : Nat} {S : ch_S} {μ : ch_M} {kc ks pc : Nat} {L : List (Nat × Value)} {st : List Value} (h : ch_H X E RX6 cc nL) {k i : Nat} {x : Int32} (hv : S.2.1 k 0 i) (hd : decode cc pc = .ok (.putfield 72, 3)) (kk : ch_W X E nL S (ch_st μ k 0 i 3 x) kc ks (pc + 3) L st) : ch_W X E nL S μ kc ks pc L (.int x :: .ref (S.1 k 0 i) :: st) :=
  ca_puti (ci := 3) (j := 3) (ty := .int) h rfl rfl li_X3 tyX3 tyX3_ok nmX3 rfl hv (by decide) rfl kw_246 rfl (by decide +kernel) rfl rfl (fun z => absurd z (by decide)) hd kk
theorem gi_X6_79 {X : ch_X} {E : ch_E} {cc : ByteArray} {nL : Nat} {S : ch_S} {μ : ch_M} {kc ks pc : Nat} {L : List (Nat × Value)} {st : List Value} (h : ch_H X E RX6 cc nL) {k i : Nat} (hv : S.2.1 k 1 i) (hd : decode cc pc = .ok (.getfield 79, 3)) (kk : ch_W X E nL S μ kc ks (pc + 3) L (.int (μ k 1 i 6) :: st)) : ch_W X E nL S μ kc ks pc L (.ref (S.1 k 1 i) :: st) :=
  ca_geti (ci := 0) (j := 6) h rfl rfl li_X0 rfl hv (by decide) rfl kw_100 hd kk
theorem pi_X6_79 {X : ch_X} {E : ch_E} {cc : ByteArray} {nL : Nat} {S : ch_S} {μ : ch_M} {kc ks pc : Nat} {L : List (Nat × Value)} {st : List Value} (h : ch_H X E RX6 cc nL) {k i : Nat} {x : Int32} (hv : S.2.1 k 1 i) (hd : decode cc pc = .ok (.putfield 79, 3)) (kk : ch_W X E nL S (ch_st μ k 1 i 6 x) kc ks (pc + 3) L st) : ch_W X E nL S μ kc ks pc L (.int x :: .ref (S.1 k 1 i) :: st) :=
  ca_puti (ci := 0) (j := 6) (ty := .int) h rfl rfl li_X0 tyX0 tyX0_ok nmX0 rfl hv (by decide) rfl kw_100 rfl (by decide +kernel) rfl rfl (fun z => absurd z (by decide)) hd kk
theorem gi_X6_82 {X : ch_X} {E : ch_E} {cc : ByteArray} {nL : Nat} {S : ch_S} {μ : ch_M} {kc ks pc : Nat} {L : List (Nat × Value)} {st : List Value} (h : ch_H X E RX6 cc nL) {k i : Nat} (hv : S.2.1 k 2 i) (hd : decode cc pc = .ok (.getfield 82, 3)) (kk : ch_W X E nL S μ kc ks (pc + 3) L (.int (μ k 2 i 1) :: st)) : ch_W X E nL S μ kc ks pc L (.ref (S.1 k 2 i) :: st) :=
  ca_geti (ci := 7) (j := 1) h rfl rfl li_X7 rfl hv (by decide) rfl kw_141 hd kk
theorem pi_X6_82 {X : ch_X} {E : ch_E} {cc : ByteArray} {nL : Nat} {S : ch_S} {μ : ch_M} {kc ks pc : Nat} {L : List (Nat × Value)} {st : List Value} (h : ch_H X E RX6 cc nL) {k i : Nat} {x : Int32} (hv : S.2.1 k 2 i) (hd : decode cc pc = .ok (.putfield 82, 3)) (kk : ch_W X E nL S (ch_st μ k 2 i 1 x) kc ks (pc + 3) L st) : ch_W X E nL S μ kc ks pc L (.int x :: .ref (S.1 k 2 i) :: st) :=
  ca_puti (ci := 7) (j := 1) (ty := .int) h rfl rfl li_X7 tyX7 tyX7_ok nmX7 rfl hv (by decide) rfl kw_141 rfl (by decide +kernel) rfl rfl (fun z => absurd z (by decide)) hd kk
theorem gi_X7_7 {X : ch_X} {E : ch_E} {cc : ByteArray} {nL : Nat} {S : ch_S} {μ : ch_M} {kc ks pc : Nat} {L : List (Nat × Value)} {st : List Value} (h : ch_H X E RX7 cc nL) {k i : Nat} (hv : S.2.1 k 2 i) (hd : decode cc pc = .ok (.getfield 7, 3)) (kk : ch_W X E nL S μ kc ks (pc + 3) L (.int (μ k 2 i 0) :: st)) : ch_W X E nL S μ kc ks pc L (.ref (S.1 k 2 i) :: st) :=
  ca_geti (ci := 7) (j := 0) h rfl rfl li_X7 rfl hv (by decide) rfl kw_134 hd kk
theorem pi_X7_7 {X : ch_X} {E : ch_E} {cc : ByteArray} {nL : Nat} {S : ch_S} {μ : ch_M} {kc ks pc : Nat} {L : List (Nat × Value)} {st : List Value} (h : ch_H X E RX7 cc nL) {k i : Nat} {x : Int32} (hv : S.2.1 k 2 i) (hx : x = 0 ∨ x = 1) (hd : decode cc pc = .ok (.putfield 7, 3)) (kk : ch_W X E nL S (ch_st μ k 2 i 0 x) kc ks (pc + 3) L st) : ch_W X E nL S μ kc ks pc L (.int x :: .ref (S.1 k 2 i) :: st) :=
  ca_puti (ci := 7) (j := 0) (ty := .boolean) h rfl rfl li_X7 tyX7 tyX7_ok nmX7 rfl hv (by decide) rfl kw_134 rfl (by decide +kernel) (by rcases hx with rfl | rfl <;> decide) (by rcases hx with rfl | rfl <;> decide) (fun _ => hx) hd kk
theorem gi_X7_13 {X : ch_X} {E : ch_E} {cc : ByteArray} {nL : Nat} {S : ch_S} {μ : ch_M} {kc ks pc : Nat} {L : List (Nat × Value)} {st : List Value} (h : ch_H X E RX7 cc nL) {k i : Nat} (hv : S.2.1 k 2 i) (hd : decode cc pc = .ok (.getfield 13, 3)) (kk : ch_W X E nL S μ kc ks (pc + 3) L (.int (μ k 2 i 1) :: st)) : ch_W X E nL S μ kc ks pc L (.ref (S.1 k 2 i) :: st) :=
  ca_geti (ci := 7) (j := 1) h rfl rfl li_X7 rfl hv (by decide) rfl kw_140 hd kk
theorem pi_X7_13 {X : ch_X} {E : ch_E} {cc : ByteArray} {nL : Nat} {S : ch_S} {μ : ch_M} {kc ks pc : Nat} {L : List (Nat × Value)} {st : List Value} (h : ch_H X E RX7 cc nL) {k i : Nat} {x : Int32} (hv : S.2.1 k 2 i) (hd : decode cc pc = .ok (.putfield 13, 3)) (kk : ch_W X E nL S (ch_st μ k 2 i 1 x) kc ks (pc + 3) L st) : ch_W X E nL S μ kc ks pc L (.int x :: .ref (S.1 k 2 i) :: st) :=
  ca_puti (ci := 7) (j := 1) (ty := .int) h rfl rfl li_X7 tyX7 tyX7_ok nmX7 rfl hv (by decide) rfl kw_140 rfl (by decide +kernel) rfl rfl (fun z => absurd z (by decide)) hd kk
theorem gi_X7_17 {X : ch_X} {E : ch_E} {cc : ByteArray} {nL : Nat} {S : ch_S} {μ : ch_M} {kc ks pc : Nat} {L : List (Nat × Value)} {st : List Value} (h : ch_H X E RX7 cc nL) {k i : Nat} (hv : S.2.1 k 2 i) (hd : decode cc pc = .ok (.getfield 17, 3)) (kk : ch_W X E nL S μ kc ks (pc + 3) L (.int (μ k 2 i 2) :: st)) : ch_W X E nL S μ kc ks pc L (.ref (S.1 k 2 i) :: st) :=
  ca_geti (ci := 7) (j := 2) h rfl rfl li_X7 rfl hv (by decide) rfl kw_144 hd kk
theorem pi_X7_17 {X : ch_X} {E : ch_E} {cc : ByteArray} {nL : Nat} {S : ch_S} {μ : ch_M} {kc ks pc : Nat} {L : List (Nat × Value)} {st : List Value} (h : ch_H X E RX7 cc nL) {k i : Nat} {x : Int32} (hv : S.2.1 k 2 i) (hd : decode cc pc = .ok (.putfield 17, 3)) (kk : ch_W X E nL S (ch_st μ k 2 i 2 x) kc ks (pc + 3) L st) : ch_W X E nL S μ kc ks pc L (.int x :: .ref (S.1 k 2 i) :: st) :=
  ca_puti (ci := 7) (j := 2) (ty := .int) h rfl rfl li_X7 tyX7 tyX7_ok nmX7 rfl hv (by decide) rfl kw_144 rfl (by decide +kernel) rfl rfl (fun z => absurd z (by decide)) hd kk
theorem gi_X7_20 {X : ch_X} {E : ch_E} {cc : ByteArray} {nL : Nat} {S : ch_S} {μ : ch_M} {kc ks pc : Nat} {L : List (Nat × Value)} {st : List Value} (h : ch_H X E RX7 cc nL) {k i : Nat} (hv : S.2.1 k 2 i) (hd : decode cc pc = .ok (.getfield 20, 3)) (kk : ch_W X E nL S μ kc ks (pc + 3) L (.int (μ k 2 i 3) :: st)) : ch_W X E nL S μ kc ks pc L (.ref (S.1 k 2 i) :: st) :=
  ca_geti (ci := 7) (j := 3) h rfl rfl li_X7 rfl hv (by decide) rfl kw_147 hd kk
theorem pi_X7_20 {X : ch_X} {E : ch_E} {cc : ByteArray} {nL : Nat} {S : ch_S} {μ : ch_M} {kc ks pc : Nat} {L : List (Nat × Value)} {st : List Value} (h : ch_H X E RX7 cc nL) {k i : Nat} {x : Int32} (hv : S.2.1 k 2 i) (hd : decode cc pc = .ok (.putfield 20, 3)) (kk : ch_W X E nL S (ch_st μ k 2 i 3 x) kc ks (pc + 3) L st) : ch_W X E nL S μ kc ks pc L (.int x :: .ref (S.1 k 2 i) :: st) :=
  ca_puti (ci := 7) (j := 3) (ty := .int) h rfl rfl li_X7 tyX7 tyX7_ok nmX7 rfl hv (by decide) rfl kw_147 rfl (by decide +kernel) rfl rfl (fun z => absurd z (by decide)) hd kk
theorem gr_X8_12 {X : ch_X} {E : ch_E} {cc : ByteArray} {nL : Nat} {S : ch_S} {μ : ch_M} {kc ks pc : Nat} {L : List (Nat × Value)} {st : List Value} (h : ch_H X E RX8 cc nL) {k i : Nat} {r : Option Nat} (hv : S.2.1 k 16 i) (hx : S.2.2 k 16 i 0 = r) (hd : decode cc pc = .ok (.getfield 12, 3)) (kk : ch_W X E nL S μ kc ks (pc + 3) L (va_rf r :: st)) : ch_W X E nL S μ kc ks pc L (.ref (S.1 k 16 i) :: st) :=
  ca_getr (ci := 8) (j := 0) h rfl rfl li_X8 rfl hv (by decide) rfl kw_355 hx hd kk
theorem gs_X8_12 {X : ch_X} {E : ch_E} {cc : ByteArray} {nL : Nat} {S : ch_S} {μ : ch_M} {kc ks pc : Nat} {L : List (Nat × Value)} {st : List Value} (h : ch_H X E RX8 cc nL) {k i : Nat} (hs : ch_Std E S) (hv : ch_V k 16 i) (hd : decode cc pc = .ok (.getfield 12, 3)) (kk : ch_W X E nL S μ kc ks (pc + 3) L (.ref (S.1 15 17 0) :: st)) : ch_W X E nL S μ kc ks pc L (.ref (S.1 k 16 i) :: st) :=
  gr_X8_12 h (hs.1 _ _ _ hv) (hs.2.1 k 16 i 0 _ hv rfl) hd kk
theorem gi_X8_43 {X : ch_X} {E : ch_E} {cc : ByteArray} {nL : Nat} {S : ch_S} {μ : ch_M} {kc ks pc : Nat} {L : List (Nat × Value)} {st : List Value} (h : ch_H X E RX8 cc nL) {k i : Nat} (hv : S.2.1 k 0 i) (hd : decode cc pc = .ok (.getfield 43, 3)) (kk : ch_W X E nL S μ kc ks (pc + 3) L (.int (μ k 0 i 3) :: st)) : ch_W X E nL S μ kc ks pc L (.ref (S.1 k 0 i) :: st) :=
  ca_geti (ci := 3) (j := 3) h rfl rfl li_X3 rfl hv (by decide) rfl kw_245 hd kk
theorem pi_X8_43 {X : ch_X} {E : ch_E} {cc : ByteArray} {nL : Nat} {S : ch_S} {μ : ch_M} {kc ks pc : Nat} {L : List (Nat × Value)} {st : List Value} (h : ch_H X E RX8 cc nL) {k i : Nat} {x : Int32} (hv : S.2.1 k 0 i) (hd : decode cc pc = .ok (.putfield 43, 3)) (kk : ch_W X E nL S (ch_st μ k 0 i 3 x) kc ks (pc + 3) L st) : ch_W X E nL S μ kc ks pc L (.int x :: .ref (S.1 k 0 i) :: st) :=
  ca_puti (ci := 3) (j := 3) (ty := .int) h rfl rfl li_X3 tyX3 tyX3_ok nmX3 rfl hv (by decide) rfl kw_245 rfl (by decide +kernel) rfl rfl (fun z => absurd z (by decide)) hd kk
theorem gi_X8_61 {X : ch_X} {E : ch_E} {cc : ByteArray} {nL : Nat} {S : ch_S} {μ : ch_M} {kc ks pc : Nat} {L : List (Nat × Value)} {st : List Value} (h : ch_H X E RX8 cc nL) {k i : Nat} (hv : S.2.1 k 0 i) (hd : decode cc pc = .ok (.getfield 61, 3)) (kk : ch_W X E nL S μ kc ks (pc + 3) L (.int (μ k 0 i 2) :: st)) : ch_W X E nL S μ kc ks pc L (.ref (S.1 k 0 i) :: st) :=
  ca_geti (ci := 3) (j := 2) h rfl rfl li_X3 rfl hv (by decide) rfl kw_242 hd kk
theorem pi_X8_61 {X : ch_X} {E : ch_E} {cc : ByteArray} {nL : Nat} {S : ch_S} {μ : ch_M} {kc ks pc : Nat} {L : List (Nat × Value)} {st : List Value} (h : ch_H X E RX8 cc nL) {k i : Nat} {x : Int32} (hv : S.2.1 k 0 i) (hd : decode cc pc = .ok (.putfield 61, 3)) (kk : ch_W X E nL S (ch_st μ k 0 i 2 x) kc ks (pc + 3) L st) : ch_W X E nL S μ kc ks pc L (.int x :: .ref (S.1 k 0 i) :: st) :=
  ca_puti (ci := 3) (j := 2) (ty := .int) h rfl rfl li_X3 tyX3 tyX3_ok nmX3 rfl hv (by decide) rfl kw_242 rfl (by decide +kernel) rfl rfl (fun z => absurd z (by decide)) hd kk
theorem gi_X8_64 {X : ch_X} {E : ch_E} {cc : ByteArray} {nL : Nat} {S : ch_S} {μ : ch_M} {kc ks pc : Nat} {L : List (Nat × Value)} {st : List Value} (h : ch_H X E RX8 cc nL) {k i : Nat} (hv : S.2.1 k 3 i) (hd : decode cc pc = .ok (.getfield 64, 3)) (kk : ch_W X E nL S μ kc ks (pc + 3) L (.int (μ k 3 i 0) :: st)) : ch_W X E nL S μ kc ks pc L (.ref (S.1 k 3 i) :: st) :=
  ca_geti (ci := 2) (j := 0) h rfl rfl li_X2 rfl hv (by decide) rfl kw_165 hd kk
theorem pi_X8_64 {X : ch_X} {E : ch_E} {cc : ByteArray} {nL : Nat} {S : ch_S} {μ : ch_M} {kc ks pc : Nat} {L : List (Nat × Value)} {st : List Value} (h : ch_H X E RX8 cc nL) {k i : Nat} {x : Int32} (hv : S.2.1 k 3 i) (hd : decode cc pc = .ok (.putfield 64, 3)) (kk : ch_W X E nL S (ch_st μ k 3 i 0 x) kc ks (pc + 3) L st) : ch_W X E nL S μ kc ks pc L (.int x :: .ref (S.1 k 3 i) :: st) :=
  ca_puti (ci := 2) (j := 0) (ty := .int) h rfl rfl li_X2 tyX2 tyX2_ok nmX2 rfl hv (by decide) rfl kw_165 rfl (by decide +kernel) rfl rfl (fun z => absurd z (by decide)) hd kk
theorem gi_X8_69 {X : ch_X} {E : ch_E} {cc : ByteArray} {nL : Nat} {S : ch_S} {μ : ch_M} {kc ks pc : Nat} {L : List (Nat × Value)} {st : List Value} (h : ch_H X E RX8 cc nL) {k i : Nat} (hv : S.2.1 k 3 i) (hd : decode cc pc = .ok (.getfield 69, 3)) (kk : ch_W X E nL S μ kc ks (pc + 3) L (.int (μ k 3 i 2) :: st)) : ch_W X E nL S μ kc ks pc L (.ref (S.1 k 3 i) :: st) :=
  ca_geti (ci := 2) (j := 2) h rfl rfl li_X2 rfl hv (by decide) rfl kw_173 hd kk
theorem pi_X8_69 {X : ch_X} {E : ch_E} {cc : ByteArray} {nL : Nat} {S : ch_S} {μ : ch_M} {kc ks pc : Nat} {L : List (Nat × Value)} {st : List Value} (h : ch_H X E RX8 cc nL) {k i : Nat} {x : Int32} (hv : S.2.1 k 3 i) (hd : decode cc pc = .ok (.putfield 69, 3)) (kk : ch_W X E nL S (ch_st μ k 3 i 2 x) kc ks (pc + 3) L st) : ch_W X E nL S μ kc ks pc L (.int x :: .ref (S.1 k 3 i) :: st) :=
  ca_puti (ci := 2) (j := 2) (ty := .int) h rfl rfl li_X2 tyX2 tyX2_ok nmX2 rfl hv (by decide) rfl kw_173 rfl (by decide +kernel) rfl rfl (fun z => absurd z (by decide)) hd kk
theorem gi_X8_81 {X : ch_X} {E : ch_E} {cc : ByteArray} {nL : Nat} {S : ch_S} {μ : ch_M} {kc ks pc : Nat} {L : List (Nat × Value)} {st : List Value} (h : ch_H X E RX8 cc nL) {k i : Nat} (hv : S.2.1 k 3 i) (hd : decode cc pc = .ok (.getfield 81, 3)) (kk : ch_W X E nL S μ kc ks (pc + 3) L (.int (μ k 3 i 1) :: st)) : ch_W X E nL S μ kc ks pc L (.ref (S.1 k 3 i) :: st) :=
  ca_geti (ci := 2) (j := 1) h rfl rfl li_X2 rfl hv (by decide) rfl kw_169 hd kk
theorem pi_X8_81 {X : ch_X} {E : ch_E} {cc : ByteArray} {nL : Nat} {S : ch_S} {μ : ch_M} {kc ks pc : Nat} {L : List (Nat × Value)} {st : List Value} (h : ch_H X E RX8 cc nL) {k i : Nat} {x : Int32} (hv : S.2.1 k 3 i) (hd : decode cc pc = .ok (.putfield 81, 3)) (kk : ch_W X E nL S (ch_st μ k 3 i 1 x) kc ks (pc + 3) L st) : ch_W X E nL S μ kc ks pc L (.int x :: .ref (S.1 k 3 i) :: st) :=
  ca_puti (ci := 2) (j := 1) (ty := .int) h rfl rfl li_X2 tyX2 tyX2_ok nmX2 rfl hv (by decide) rfl kw_169 rfl (by decide +kernel) rfl rfl (fun z => absurd z (by decide)) hd kk
theorem gi_X8_84 {X : ch_X} {E : ch_E} {cc : ByteArray} {nL : Nat} {S : ch_S} {μ : ch_M} {kc ks pc : Nat} {L : List (Nat × Value)} {st : List Value} (h : ch_H X E RX8 cc nL) {k i : Nat} (hv : S.2.1 k 3 i) (hd : decode cc pc = .ok (.getfield 84, 3)) (kk : ch_W X E nL S μ kc ks (pc + 3) L (.int (μ k 3 i 3) :: st)) : ch_W X E nL S μ kc ks pc L (.ref (S.1 k 3 i) :: st) :=
  ca_geti (ci := 2) (j := 3) h rfl rfl li_X2 rfl hv (by decide) rfl kw_176 hd kk
theorem pi_X8_84 {X : ch_X} {E : ch_E} {cc : ByteArray} {nL : Nat} {S : ch_S} {μ : ch_M} {kc ks pc : Nat} {L : List (Nat × Value)} {st : List Value} (h : ch_H X E RX8 cc nL) {k i : Nat} {x : Int32} (hv : S.2.1 k 3 i) (hd : decode cc pc = .ok (.putfield 84, 3)) (kk : ch_W X E nL S (ch_st μ k 3 i 3 x) kc ks (pc + 3) L st) : ch_W X E nL S μ kc ks pc L (.int x :: .ref (S.1 k 3 i) :: st) :=
  ca_puti (ci := 2) (j := 3) (ty := .int) h rfl rfl li_X2 tyX2 tyX2_ok nmX2 rfl hv (by decide) rfl kw_176 rfl (by decide +kernel) rfl rfl (fun z => absurd z (by decide)) hd kk
theorem gi_X8_87 {X : ch_X} {E : ch_E} {cc : ByteArray} {nL : Nat} {S : ch_S} {μ : ch_M} {kc ks pc : Nat} {L : List (Nat × Value)} {st : List Value} (h : ch_H X E RX8 cc nL) {k i : Nat} (hv : S.2.1 k 3 i) (hd : decode cc pc = .ok (.getfield 87, 3)) (kk : ch_W X E nL S μ kc ks (pc + 3) L (.int (μ k 3 i 4) :: st)) : ch_W X E nL S μ kc ks pc L (.ref (S.1 k 3 i) :: st) :=
  ca_geti (ci := 2) (j := 4) h rfl rfl li_X2 rfl hv (by decide) rfl kw_179 hd kk
theorem pi_X8_87 {X : ch_X} {E : ch_E} {cc : ByteArray} {nL : Nat} {S : ch_S} {μ : ch_M} {kc ks pc : Nat} {L : List (Nat × Value)} {st : List Value} (h : ch_H X E RX8 cc nL) {k i : Nat} {x : Int32} (hv : S.2.1 k 3 i) (hd : decode cc pc = .ok (.putfield 87, 3)) (kk : ch_W X E nL S (ch_st μ k 3 i 4 x) kc ks (pc + 3) L st) : ch_W X E nL S μ kc ks pc L (.int x :: .ref (S.1 k 3 i) :: st) :=
  ca_puti (ci := 2) (j := 4) (ty := .int) h rfl rfl li_X2 tyX2 tyX2_ok nmX2 rfl hv (by decide) rfl kw_179 rfl (by decide +kernel) rfl rfl (fun z => absurd z (by decide)) hd kk
theorem gi_X8_93 {X : ch_X} {E : ch_E} {cc : ByteArray} {nL : Nat} {S : ch_S} {μ : ch_M} {kc ks pc : Nat} {L : List (Nat × Value)} {st : List Value} (h : ch_H X E RX8 cc nL) {k i : Nat} (hv : S.2.1 k 0 i) (hd : decode cc pc = .ok (.getfield 93, 3)) (kk : ch_W X E nL S μ kc ks (pc + 3) L (.int (μ k 0 i 0) :: st)) : ch_W X E nL S μ kc ks pc L (.ref (S.1 k 0 i) :: st) :=
  ca_geti (ci := 3) (j := 0) h rfl rfl li_X3 rfl hv (by decide) rfl kw_238 hd kk
theorem pi_X8_93 {X : ch_X} {E : ch_E} {cc : ByteArray} {nL : Nat} {S : ch_S} {μ : ch_M} {kc ks pc : Nat} {L : List (Nat × Value)} {st : List Value} (h : ch_H X E RX8 cc nL) {k i : Nat} {x : Int32} (hv : S.2.1 k 0 i) (hd : decode cc pc = .ok (.putfield 93, 3)) (kk : ch_W X E nL S (ch_st μ k 0 i 0 x) kc ks (pc + 3) L st) : ch_W X E nL S μ kc ks pc L (.int x :: .ref (S.1 k 0 i) :: st) :=
  ca_puti (ci := 3) (j := 0) (ty := .int) h rfl rfl li_X3 tyX3 tyX3_ok nmX3 rfl hv (by decide) rfl kw_238 rfl (by decide +kernel) rfl rfl (fun z => absurd z (by decide)) hd kk
theorem gi_X8_96 {X : ch_X} {E : ch_E} {cc : ByteArray} {nL : Nat} {S : ch_S} {μ : ch_M} {kc ks pc : Nat} {L : List (Nat × Value)} {st : List Value} (h : ch_H X E RX8 cc nL) {k i : Nat} (hv : S.2.1 k 3 i) (hd : decode cc pc = .ok (.getfield 96, 3)) (kk : ch_W X E nL S μ kc ks (pc + 3) L (.int (μ k 3 i 5) :: st)) : ch_W X E nL S μ kc ks pc L (.ref (S.1 k 3 i) :: st) :=
  ca_geti (ci := 2) (j := 5) h rfl rfl li_X2 rfl hv (by decide) rfl kw_184 hd kk
theorem pi_X8_96 {X : ch_X} {E : ch_E} {cc : ByteArray} {nL : Nat} {S : ch_S} {μ : ch_M} {kc ks pc : Nat} {L : List (Nat × Value)} {st : List Value} (h : ch_H X E RX8 cc nL) {k i : Nat} {x : Int32} (hv : S.2.1 k 3 i) (hd : decode cc pc = .ok (.putfield 96, 3)) (kk : ch_W X E nL S (ch_st μ k 3 i 5 x) kc ks (pc + 3) L st) : ch_W X E nL S μ kc ks pc L (.int x :: .ref (S.1 k 3 i) :: st) :=
  ca_puti (ci := 2) (j := 5) (ty := .int) h rfl rfl li_X2 tyX2 tyX2_ok nmX2 rfl hv (by decide) rfl kw_184 rfl (by decide +kernel) rfl rfl (fun z => absurd z (by decide)) hd kk
theorem gi_X8_103 {X : ch_X} {E : ch_E} {cc : ByteArray} {nL : Nat} {S : ch_S} {μ : ch_M} {kc ks pc : Nat} {L : List (Nat × Value)} {st : List Value} (h : ch_H X E RX8 cc nL) {k i : Nat} (hv : S.2.1 k 2 i) (hd : decode cc pc = .ok (.getfield 103, 3)) (kk : ch_W X E nL S μ kc ks (pc + 3) L (.int (μ k 2 i 0) :: st)) : ch_W X E nL S μ kc ks pc L (.ref (S.1 k 2 i) :: st) :=
  ca_geti (ci := 7) (j := 0) h rfl rfl li_X7 rfl hv (by decide) rfl kw_137 hd kk
theorem pi_X8_103 {X : ch_X} {E : ch_E} {cc : ByteArray} {nL : Nat} {S : ch_S} {μ : ch_M} {kc ks pc : Nat} {L : List (Nat × Value)} {st : List Value} (h : ch_H X E RX8 cc nL) {k i : Nat} {x : Int32} (hv : S.2.1 k 2 i) (hx : x = 0 ∨ x = 1) (hd : decode cc pc = .ok (.putfield 103, 3)) (kk : ch_W X E nL S (ch_st μ k 2 i 0 x) kc ks (pc + 3) L st) : ch_W X E nL S μ kc ks pc L (.int x :: .ref (S.1 k 2 i) :: st) :=
  ca_puti (ci := 7) (j := 0) (ty := .boolean) h rfl rfl li_X7 tyX7 tyX7_ok nmX7 rfl hv (by decide) rfl kw_137 rfl (by decide +kernel) (by rcases hx with rfl | rfl <;> decide) (by rcases hx with rfl | rfl <;> decide) (fun _ => hx) hd kk
theorem gi_X8_118 {X : ch_X} {E : ch_E} {cc : ByteArray} {nL : Nat} {S : ch_S} {μ : ch_M} {kc ks pc : Nat} {L : List (Nat × Value)} {st : List Value} (h : ch_H X E RX8 cc nL) {k i : Nat} (hv : S.2.1 k 0 i) (hd : decode cc pc = .ok (.getfield 118, 3)) (kk : ch_W X E nL S μ kc ks (pc + 3) L (.int (μ k 0 i 4) :: st)) : ch_W X E nL S μ kc ks pc L (.ref (S.1 k 0 i) :: st) :=
  ca_geti (ci := 3) (j := 4) h rfl rfl li_X3 rfl hv (by decide) rfl kw_251 hd kk
theorem pi_X8_118 {X : ch_X} {E : ch_E} {cc : ByteArray} {nL : Nat} {S : ch_S} {μ : ch_M} {kc ks pc : Nat} {L : List (Nat × Value)} {st : List Value} (h : ch_H X E RX8 cc nL) {k i : Nat} {x : Int32} (hv : S.2.1 k 0 i) (hd : decode cc pc = .ok (.putfield 118, 3)) (kk : ch_W X E nL S (ch_st μ k 0 i 4 x) kc ks (pc + 3) L st) : ch_W X E nL S μ kc ks pc L (.int x :: .ref (S.1 k 0 i) :: st) :=
  ca_puti (ci := 3) (j := 4) (ty := .int) h rfl rfl li_X3 tyX3 tyX3_ok nmX3 rfl hv (by decide) rfl kw_251 rfl (by decide +kernel) rfl rfl (fun z => absurd z (by decide)) hd kk
theorem gi_X8_129 {X : ch_X} {E : ch_E} {cc : ByteArray} {nL : Nat} {S : ch_S} {μ : ch_M} {kc ks pc : Nat} {L : List (Nat × Value)} {st : List Value} (h : ch_H X E RX8 cc nL) {k i : Nat} (hv : S.2.1 k 3 i) (hd : decode cc pc = .ok (.getfield 129, 3)) (kk : ch_W X E nL S μ kc ks (pc + 3) L (.int (μ k 3 i 6) :: st)) : ch_W X E nL S μ kc ks pc L (.ref (S.1 k 3 i) :: st) :=
  ca_geti (ci := 2) (j := 6) h rfl rfl li_X2 rfl hv (by decide) rfl kw_188 hd kk
theorem pi_X8_129 {X : ch_X} {E : ch_E} {cc : ByteArray} {nL : Nat} {S : ch_S} {μ : ch_M} {kc ks pc : Nat} {L : List (Nat × Value)} {st : List Value} (h : ch_H X E RX8 cc nL) {k i : Nat} {x : Int32} (hv : S.2.1 k 3 i) (hd : decode cc pc = .ok (.putfield 129, 3)) (kk : ch_W X E nL S (ch_st μ k 3 i 6 x) kc ks (pc + 3) L st) : ch_W X E nL S μ kc ks pc L (.int x :: .ref (S.1 k 3 i) :: st) :=
  ca_puti (ci := 2) (j := 6) (ty := .int) h rfl rfl li_X2 tyX2 tyX2_ok nmX2 rfl hv (by decide) rfl kw_188 rfl (by decide +kernel) rfl rfl (fun z => absurd z (by decide)) hd kk
theorem gi_X8_141 {X : ch_X} {E : ch_E} {cc : ByteArray} {nL : Nat} {S : ch_S} {μ : ch_M} {kc ks pc : Nat} {L : List (Nat × Value)} {st : List Value} (h : ch_H X E RX8 cc nL) {k i : Nat} (hv : S.2.1 k 0 i) (hd : decode cc pc = .ok (.getfield 141, 3)) (kk : ch_W X E nL S μ kc ks (pc + 3) L (.int (μ k 0 i 8) :: st)) : ch_W X E nL S μ kc ks pc L (.ref (S.1 k 0 i) :: st) :=
  ca_geti (ci := 3) (j := 8) h rfl rfl li_X3 rfl hv (by decide) rfl kw_262 hd kk
theorem pi_X8_141 {X : ch_X} {E : ch_E} {cc : ByteArray} {nL : Nat} {S : ch_S} {μ : ch_M} {kc ks pc : Nat} {L : List (Nat × Value)} {st : List Value} (h : ch_H X E RX8 cc nL) {k i : Nat} {x : Int32} (hv : S.2.1 k 0 i) (hd : decode cc pc = .ok (.putfield 141, 3)) (kk : ch_W X E nL S (ch_st μ k 0 i 8 x) kc ks (pc + 3) L st) : ch_W X E nL S μ kc ks pc L (.int x :: .ref (S.1 k 0 i) :: st) :=
  ca_puti (ci := 3) (j := 8) (ty := .int) h rfl rfl li_X3 tyX3 tyX3_ok nmX3 rfl hv (by decide) rfl kw_262 rfl (by decide +kernel) rfl rfl (fun z => absurd z (by decide)) hd kk
theorem gi_X8_144 {X : ch_X} {E : ch_E} {cc : ByteArray} {nL : Nat} {S : ch_S} {μ : ch_M} {kc ks pc : Nat} {L : List (Nat × Value)} {st : List Value} (h : ch_H X E RX8 cc nL) {k i : Nat} (hv : S.2.1 k 3 i) (hd : decode cc pc = .ok (.getfield 144, 3)) (kk : ch_W X E nL S μ kc ks (pc + 3) L (.int (μ k 3 i 7) :: st)) : ch_W X E nL S μ kc ks pc L (.ref (S.1 k 3 i) :: st) :=
  ca_geti (ci := 2) (j := 7) h rfl rfl li_X2 rfl hv (by decide) rfl kw_192 hd kk
theorem pi_X8_144 {X : ch_X} {E : ch_E} {cc : ByteArray} {nL : Nat} {S : ch_S} {μ : ch_M} {kc ks pc : Nat} {L : List (Nat × Value)} {st : List Value} (h : ch_H X E RX8 cc nL) {k i : Nat} {x : Int32} (hv : S.2.1 k 3 i) (hd : decode cc pc = .ok (.putfield 144, 3)) (kk : ch_W X E nL S (ch_st μ k 3 i 7 x) kc ks (pc + 3) L st) : ch_W X E nL S μ kc ks pc L (.int x :: .ref (S.1 k 3 i) :: st) :=
  ca_puti (ci := 2) (j := 7) (ty := .int) h rfl rfl li_X2 tyX2 tyX2_ok nmX2 rfl hv (by decide) rfl kw_192 rfl (by decide +kernel) rfl rfl (fun z => absurd z (by decide)) hd kk
theorem gi_X8_147 {X : ch_X} {E : ch_E} {cc : ByteArray} {nL : Nat} {S : ch_S} {μ : ch_M} {kc ks pc : Nat} {L : List (Nat × Value)} {st : List Value} (h : ch_H X E RX8 cc nL) {k i : Nat} (hv : S.2.1 k 0 i) (hd : decode cc pc = .ok (.getfield 147, 3)) (kk : ch_W X E nL S μ kc ks (pc + 3) L (.int (μ k 0 i 9) :: st)) : ch_W X E nL S μ kc ks pc L (.ref (S.1 k 0 i) :: st) :=
  ca_geti (ci := 3) (j := 9) h rfl rfl li_X3 rfl hv (by decide) rfl kw_265 hd kk
theorem pi_X8_147 {X : ch_X} {E : ch_E} {cc : ByteArray} {nL : Nat} {S : ch_S} {μ : ch_M} {kc ks pc : Nat} {L : List (Nat × Value)} {st : List Value} (h : ch_H X E RX8 cc nL) {k i : Nat} {x : Int32} (hv : S.2.1 k 0 i) (hd : decode cc pc = .ok (.putfield 147, 3)) (kk : ch_W X E nL S (ch_st μ k 0 i 9 x) kc ks (pc + 3) L st) : ch_W X E nL S μ kc ks pc L (.int x :: .ref (S.1 k 0 i) :: st) :=
  ca_puti (ci := 3) (j := 9) (ty := .int) h rfl rfl li_X3 tyX3 tyX3_ok nmX3 rfl hv (by decide) rfl kw_265 rfl (by decide +kernel) rfl rfl (fun z => absurd z (by decide)) hd kk
theorem gi_X8_168 {X : ch_X} {E : ch_E} {cc : ByteArray} {nL : Nat} {S : ch_S} {μ : ch_M} {kc ks pc : Nat} {L : List (Nat × Value)} {st : List Value} (h : ch_H X E RX8 cc nL) {k i : Nat} (hv : S.2.1 k 3 i) (hd : decode cc pc = .ok (.getfield 168, 3)) (kk : ch_W X E nL S μ kc ks (pc + 3) L (.int (μ k 3 i 8) :: st)) : ch_W X E nL S μ kc ks pc L (.ref (S.1 k 3 i) :: st) :=
  ca_geti (ci := 2) (j := 8) h rfl rfl li_X2 rfl hv (by decide) rfl kw_195 hd kk
theorem pi_X8_168 {X : ch_X} {E : ch_E} {cc : ByteArray} {nL : Nat} {S : ch_S} {μ : ch_M} {kc ks pc : Nat} {L : List (Nat × Value)} {st : List Value} (h : ch_H X E RX8 cc nL) {k i : Nat} {x : Int32} (hv : S.2.1 k 3 i) (hd : decode cc pc = .ok (.putfield 168, 3)) (kk : ch_W X E nL S (ch_st μ k 3 i 8 x) kc ks (pc + 3) L st) : ch_W X E nL S μ kc ks pc L (.int x :: .ref (S.1 k 3 i) :: st) :=
  ca_puti (ci := 2) (j := 8) (ty := .int) h rfl rfl li_X2 tyX2 tyX2_ok nmX2 rfl hv (by decide) rfl kw_195 rfl (by decide +kernel) rfl rfl (fun z => absurd z (by decide)) hd kk
theorem gi_X8_174 {X : ch_X} {E : ch_E} {cc : ByteArray} {nL : Nat} {S : ch_S} {μ : ch_M} {kc ks pc : Nat} {L : List (Nat × Value)} {st : List Value} (h : ch_H X E RX8 cc nL) {k i : Nat} (hv : S.2.1 k 17 i) (hd : decode cc pc = .ok (.getfield 174, 3)) (kk : ch_W X E nL S μ kc ks (pc + 3) L (.int (μ k 17 i 0) :: st)) : ch_W X E nL S μ kc ks pc L (.ref (S.1 k 17 i) :: st) :=
  ca_geti (ci := 6) (j := 0) h rfl rfl li_X6 rfl hv (by decide) rfl kw_341 hd kk
theorem pi_X8_174 {X : ch_X} {E : ch_E} {cc : ByteArray} {nL : Nat} {S : ch_S} {μ : ch_M} {kc ks pc : Nat} {L : List (Nat × Value)} {st : List Value} (h : ch_H X E RX8 cc nL) {k i : Nat} {x : Int32} (hv : S.2.1 k 17 i) (hd : decode cc pc = .ok (.putfield 174, 3)) (kk : ch_W X E nL S (ch_st μ k 17 i 0 x) kc ks (pc + 3) L st) : ch_W X E nL S μ kc ks pc L (.int x :: .ref (S.1 k 17 i) :: st) :=
  ca_puti (ci := 6) (j := 0) (ty := .int) h rfl rfl li_X6 tyX6 tyX6_ok nmX6 rfl hv (by decide) rfl kw_341 rfl (by decide +kernel) rfl rfl (fun z => absurd z (by decide)) hd kk
theorem gi_X8_176 {X : ch_X} {E : ch_E} {cc : ByteArray} {nL : Nat} {S : ch_S} {μ : ch_M} {kc ks pc : Nat} {L : List (Nat × Value)} {st : List Value} (h : ch_H X E RX8 cc nL) {k i : Nat} (hv : S.2.1 k 2 i) (hd : decode cc pc = .ok (.getfield 176, 3)) (kk : ch_W X E nL S μ kc ks (pc + 3) L (.int (μ k 2 i 3) :: st)) : ch_W X E nL S μ kc ks pc L (.ref (S.1 k 2 i) :: st) :=
  ca_geti (ci := 7) (j := 3) h rfl rfl li_X7 rfl hv (by decide) rfl kw_148 hd kk
theorem pi_X8_176 {X : ch_X} {E : ch_E} {cc : ByteArray} {nL : Nat} {S : ch_S} {μ : ch_M} {kc ks pc : Nat} {L : List (Nat × Value)} {st : List Value} (h : ch_H X E RX8 cc nL) {k i : Nat} {x : Int32} (hv : S.2.1 k 2 i) (hd : decode cc pc = .ok (.putfield 176, 3)) (kk : ch_W X E nL S (ch_st μ k 2 i 3 x) kc ks (pc + 3) L st) : ch_W X E nL S μ kc ks pc L (.int x :: .ref (S.1 k 2 i) :: st) :=
  ca_puti (ci := 7) (j := 3) (ty := .int) h rfl rfl li_X7 tyX7 tyX7_ok nmX7 rfl hv (by decide) rfl kw_148 rfl (by decide +kernel) rfl rfl (fun z => absurd z (by decide)) hd kk
theorem gi_X8_179 {X : ch_X} {E : ch_E} {cc : ByteArray} {nL : Nat} {S : ch_S} {μ : ch_M} {kc ks pc : Nat} {L : List (Nat × Value)} {st : List Value} (h : ch_H X E RX8 cc nL) {k i : Nat} (hv : S.2.1 k 17 i) (hd : decode cc pc = .ok (.getfield 179, 3)) (kk : ch_W X E nL S μ kc ks (pc + 3) L (.int (μ k 17 i 1) :: st)) : ch_W X E nL S μ kc ks pc L (.ref (S.1 k 17 i) :: st) :=
  ca_geti (ci := 6) (j := 1) h rfl rfl li_X6 rfl hv (by decide) rfl kw_343 hd kk
theorem pi_X8_179 {X : ch_X} {E : ch_E} {cc : ByteArray} {nL : Nat} {S : ch_S} {μ : ch_M} {kc ks pc : Nat} {L : List (Nat × Value)} {st : List Value} (h : ch_H X E RX8 cc nL) {k i : Nat} {x : Int32} (hv : S.2.1 k 17 i) (hx : x = 0 ∨ x = 1) (hd : decode cc pc = .ok (.putfield 179, 3)) (kk : ch_W X E nL S (ch_st μ k 17 i 1 x) kc ks (pc + 3) L st) : ch_W X E nL S μ kc ks pc L (.int x :: .ref (S.1 k 17 i) :: st) :=
  ca_puti (ci := 6) (j := 1) (ty := .boolean) h rfl rfl li_X6 tyX6 tyX6_ok nmX6 rfl hv (by decide) rfl kw_343 rfl (by decide +kernel) (by rcases hx with rfl | rfl <;> decide) (by rcases hx with rfl | rfl <;> decide) (fun _ => hx) hd kk
theorem gi_X8_189 {X : ch_X} {E : ch_E} {cc : ByteArray} {nL : Nat} {S : ch_S} {μ : ch_M} {kc ks pc : Nat} {L : List (Nat × Value)} {st : List Value} (h : ch_H X E RX8 cc nL) {k i : Nat} (hv : S.2.1 k 1 i) (hd : decode cc pc = .ok (.getfield 189, 3)) (kk : ch_W X E nL S μ kc ks (pc + 3) L (.int (μ k 1 i 8) :: st)) : ch_W X E nL S μ kc ks pc L (.ref (S.1 k 1 i) :: st) :=
  ca_geti (ci := 0) (j := 8) h rfl rfl li_X0 rfl hv (by decide) rfl kw_108 hd kk
theorem pi_X8_189 {X : ch_X} {E : ch_E} {cc : ByteArray} {nL : Nat} {S : ch_S} {μ : ch_M} {kc ks pc : Nat} {L : List (Nat × Value)} {st : List Value} (h : ch_H X E RX8 cc nL) {k i : Nat} {x : Int32} (hv : S.2.1 k 1 i) (hd : decode cc pc = .ok (.putfield 189, 3)) (kk : ch_W X E nL S (ch_st μ k 1 i 8 x) kc ks (pc + 3) L st) : ch_W X E nL S μ kc ks pc L (.int x :: .ref (S.1 k 1 i) :: st) :=
  ca_puti (ci := 0) (j := 8) (ty := .int) h rfl rfl li_X0 tyX0 tyX0_ok nmX0 rfl hv (by decide) rfl kw_108 rfl (by decide +kernel) rfl rfl (fun z => absurd z (by decide)) hd kk
theorem gi_X8_192 {X : ch_X} {E : ch_E} {cc : ByteArray} {nL : Nat} {S : ch_S} {μ : ch_M} {kc ks pc : Nat} {L : List (Nat × Value)} {st : List Value} (h : ch_H X E RX8 cc nL) {k i : Nat} (hv : S.2.1 k 3 i) (hd : decode cc pc = .ok (.getfield 192, 3)) (kk : ch_W X E nL S μ kc ks (pc + 3) L (.int (μ k 3 i 9) :: st)) : ch_W X E nL S μ kc ks pc L (.ref (S.1 k 3 i) :: st) :=
  ca_geti (ci := 2) (j := 9) h rfl rfl li_X2 rfl hv (by decide) rfl kw_199 hd kk
theorem pi_X8_192 {X : ch_X} {E : ch_E} {cc : ByteArray} {nL : Nat} {S : ch_S} {μ : ch_M} {kc ks pc : Nat} {L : List (Nat × Value)} {st : List Value} (h : ch_H X E RX8 cc nL) {k i : Nat} {x : Int32} (hv : S.2.1 k 3 i) (hd : decode cc pc = .ok (.putfield 192, 3)) (kk : ch_W X E nL S (ch_st μ k 3 i 9 x) kc ks (pc + 3) L st) : ch_W X E nL S μ kc ks pc L (.int x :: .ref (S.1 k 3 i) :: st) :=
  ca_puti (ci := 2) (j := 9) (ty := .int) h rfl rfl li_X2 tyX2 tyX2_ok nmX2 rfl hv (by decide) rfl kw_199 rfl (by decide +kernel) rfl rfl (fun z => absurd z (by decide)) hd kk
theorem gi_X8_195 {X : ch_X} {E : ch_E} {cc : ByteArray} {nL : Nat} {S : ch_S} {μ : ch_M} {kc ks pc : Nat} {L : List (Nat × Value)} {st : List Value} (h : ch_H X E RX8 cc nL) {k i : Nat} (hv : S.2.1 k 0 i) (hd : decode cc pc = .ok (.getfield 195, 3)) (kk : ch_W X E nL S μ kc ks (pc + 3) L (.int (μ k 0 i 7) :: st)) : ch_W X E nL S μ kc ks pc L (.ref (S.1 k 0 i) :: st) :=
  ca_geti (ci := 3) (j := 7) h rfl rfl li_X3 rfl hv (by decide) rfl kw_259 hd kk
theorem pi_X8_195 {X : ch_X} {E : ch_E} {cc : ByteArray} {nL : Nat} {S : ch_S} {μ : ch_M} {kc ks pc : Nat} {L : List (Nat × Value)} {st : List Value} (h : ch_H X E RX8 cc nL) {k i : Nat} {x : Int32} (hv : S.2.1 k 0 i) (hd : decode cc pc = .ok (.putfield 195, 3)) (kk : ch_W X E nL S (ch_st μ k 0 i 7 x) kc ks (pc + 3) L st) : ch_W X E nL S μ kc ks pc L (.int x :: .ref (S.1 k 0 i) :: st) :=
  ca_puti (ci := 3) (j := 7) (ty := .int) h rfl rfl li_X3 tyX3 tyX3_ok nmX3 rfl hv (by decide) rfl kw_259 rfl (by decide +kernel) rfl rfl (fun z => absurd z (by decide)) hd kk
theorem gr_X9_9 {X : ch_X} {E : ch_E} {cc : ByteArray} {nL : Nat} {S : ch_S} {μ : ch_M} {kc ks pc : Nat} {L : List (Nat × Value)} {st : List Value} (h : ch_H X E RX9 cc nL) {k i : Nat} {r : Option Nat} (hv : S.2.1 k 20 i) (hx : S.2.2 k 20 i 0 = r) (hd : decode cc pc = .ok (.getfield 9, 3)) (kk : ch_W X E nL S μ kc ks (pc + 3) L (va_rf r :: st)) : ch_W X E nL S μ kc ks pc L (.ref (S.1 k 20 i) :: st) :=
  ca_getr (ci := 9) (j := 0) h rfl rfl li_X9 rfl hv (by decide) rfl kw_365 hx hd kk
theorem gs_X9_9 {X : ch_X} {E : ch_E} {cc : ByteArray} {nL : Nat} {S : ch_S} {μ : ch_M} {kc ks pc : Nat} {L : List (Nat × Value)} {st : List Value} (h : ch_H X E RX9 cc nL) {k i : Nat} (hs : ch_Std E S) (hv : ch_V k 20 i) (hd : decode cc pc = .ok (.getfield 9, 3)) (kk : ch_W X E nL S μ kc ks (pc + 3) L (.ref (S.1 15 21 0) :: st)) : ch_W X E nL S μ kc ks pc L (.ref (S.1 k 20 i) :: st) :=
  gr_X9_9 h (hs.1 _ _ _ hv) (hs.2.1 k 20 i 0 _ hv rfl) hd kk
theorem gi_X10_9 {X : ch_X} {E : ch_E} {cc : ByteArray} {nL : Nat} {S : ch_S} {μ : ch_M} {kc ks pc : Nat} {L : List (Nat × Value)} {st : List Value} (h : ch_H X E RX10 cc nL) {k i : Nat} (hv : S.2.1 k 12 i) (hd : decode cc pc = .ok (.getfield 9, 3)) (kk : ch_W X E nL S μ kc ks (pc + 3) L (.int (μ k 12 i 2) :: st)) : ch_W X E nL S μ kc ks pc L (.ref (S.1 k 12 i) :: st) :=
  ca_geti (ci := 10) (j := 2) h rfl rfl li_X10 rfl hv (by decide) rfl kw_44 hd kk
theorem pi_X10_9 {X : ch_X} {E : ch_E} {cc : ByteArray} {nL : Nat} {S : ch_S} {μ : ch_M} {kc ks pc : Nat} {L : List (Nat × Value)} {st : List Value} (h : ch_H X E RX10 cc nL) {k i : Nat} {x : Int32} (hv : S.2.1 k 12 i) (hd : decode cc pc = .ok (.putfield 9, 3)) (kk : ch_W X E nL S (ch_st μ k 12 i 2 x) kc ks (pc + 3) L st) : ch_W X E nL S μ kc ks pc L (.int x :: .ref (S.1 k 12 i) :: st) :=
  ca_puti (ci := 10) (j := 2) (ty := .int) h rfl rfl li_X10 tyX10 tyX10_ok nmX10 rfl hv (by decide) rfl kw_44 rfl (by decide +kernel) rfl rfl (fun z => absurd z (by decide)) hd kk
theorem gr_X10_15 {X : ch_X} {E : ch_E} {cc : ByteArray} {nL : Nat} {S : ch_S} {μ : ch_M} {kc ks pc : Nat} {L : List (Nat × Value)} {st : List Value} (h : ch_H X E RX10 cc nL) {k i : Nat} {r : Option Nat} (hv : S.2.1 k 12 i) (hx : S.2.2 k 12 i 3 = r) (hd : decode cc pc = .ok (.getfield 15, 3)) (kk : ch_W X E nL S μ kc ks (pc + 3) L (va_rf r :: st)) : ch_W X E nL S μ kc ks pc L (.ref (S.1 k 12 i) :: st) :=
  ca_getr (ci := 10) (j := 3) h rfl rfl li_X10 rfl hv (by decide) rfl kw_45 hx hd kk
theorem gs_X10_15 {X : ch_X} {E : ch_E} {cc : ByteArray} {nL : Nat} {S : ch_S} {μ : ch_M} {kc ks pc : Nat} {L : List (Nat × Value)} {st : List Value} (h : ch_H X E RX10 cc nL) {k i : Nat} (hs : ch_Std E S) (hv : ch_V k 12 i) (hd : decode cc pc = .ok (.getfield 15, 3)) (kk : ch_W X E nL S μ kc ks (pc + 3) L (.ref (S.1 15 13 0) :: st)) : ch_W X E nL S μ kc ks pc L (.ref (S.1 k 12 i) :: st) :=
  gr_X10_15 h (hs.1 _ _ _ hv) (hs.2.1 k 12 i 3 _ hv rfl) hd kk
theorem gi_X10_19 {X : ch_X} {E : ch_E} {cc : ByteArray} {nL : Nat} {S : ch_S} {μ : ch_M} {kc ks pc : Nat} {L : List (Nat × Value)} {st : List Value} (h : ch_H X E RX10 cc nL) {k i : Nat} (hv : S.2.1 k 12 i) (hd : decode cc pc = .ok (.getfield 19, 3)) (kk : ch_W X E nL S μ kc ks (pc + 3) L (.int (μ k 12 i 0) :: st)) : ch_W X E nL S μ kc ks pc L (.ref (S.1 k 12 i) :: st) :=
  ca_geti (ci := 10) (j := 0) h rfl rfl li_X10 rfl hv (by decide) rfl kw_41 hd kk
theorem pi_X10_19 {X : ch_X} {E : ch_E} {cc : ByteArray} {nL : Nat} {S : ch_S} {μ : ch_M} {kc ks pc : Nat} {L : List (Nat × Value)} {st : List Value} (h : ch_H X E RX10 cc nL) {k i : Nat} {x : Int32} (hv : S.2.1 k 12 i) (hd : decode cc pc = .ok (.putfield 19, 3)) (kk : ch_W X E nL S (ch_st μ k 12 i 0 x) kc ks (pc + 3) L st) : ch_W X E nL S μ kc ks pc L (.int x :: .ref (S.1 k 12 i) :: st) :=
  ca_puti (ci := 10) (j := 0) (ty := .int) h rfl rfl li_X10 tyX10 tyX10_ok nmX10 rfl hv (by decide) rfl kw_41 rfl (by decide +kernel) rfl rfl (fun z => absurd z (by decide)) hd kk
theorem gi_X10_22 {X : ch_X} {E : ch_E} {cc : ByteArray} {nL : Nat} {S : ch_S} {μ : ch_M} {kc ks pc : Nat} {L : List (Nat × Value)} {st : List Value} (h : ch_H X E RX10 cc nL) {k i : Nat} (hv : S.2.1 k 12 i) (hd : decode cc pc = .ok (.getfield 22, 3)) (kk : ch_W X E nL S μ kc ks (pc + 3) L (.int (μ k 12 i 4) :: st)) : ch_W X E nL S μ kc ks pc L (.ref (S.1 k 12 i) :: st) :=
  ca_geti (ci := 10) (j := 4) h rfl rfl li_X10 rfl hv (by decide) rfl kw_46 hd kk
theorem pi_X10_22 {X : ch_X} {E : ch_E} {cc : ByteArray} {nL : Nat} {S : ch_S} {μ : ch_M} {kc ks pc : Nat} {L : List (Nat × Value)} {st : List Value} (h : ch_H X E RX10 cc nL) {k i : Nat} {x : Int32} (hv : S.2.1 k 12 i) (hd : decode cc pc = .ok (.putfield 22, 3)) (kk : ch_W X E nL S (ch_st μ k 12 i 4 x) kc ks (pc + 3) L st) : ch_W X E nL S μ kc ks pc L (.int x :: .ref (S.1 k 12 i) :: st) :=
  ca_puti (ci := 10) (j := 4) (ty := .int) h rfl rfl li_X10 tyX10 tyX10_ok nmX10 rfl hv (by decide) rfl kw_46 rfl (by decide +kernel) rfl rfl (fun z => absurd z (by decide)) hd kk
theorem gi_X10_25 {X : ch_X} {E : ch_E} {cc : ByteArray} {nL : Nat} {S : ch_S} {μ : ch_M} {kc ks pc : Nat} {L : List (Nat × Value)} {st : List Value} (h : ch_H X E RX10 cc nL) {k i : Nat} (hv : S.2.1 k 12 i) (hd : decode cc pc = .ok (.getfield 25, 3)) (kk : ch_W X E nL S μ kc ks (pc + 3) L (.int (μ k 12 i 6) :: st)) : ch_W X E nL S μ kc ks pc L (.ref (S.1 k 12 i) :: st) :=
  ca_geti (ci := 10) (j := 6) h rfl rfl li_X10 rfl hv (by decide) rfl kw_48 hd kk
theorem pi_X10_25 {X : ch_X} {E : ch_E} {cc : ByteArray} {nL : Nat} {S : ch_S} {μ : ch_M} {kc ks pc : Nat} {L : List (Nat × Value)} {st : List Value} (h : ch_H X E RX10 cc nL) {k i : Nat} {x : Int32} (hv : S.2.1 k 12 i) (hd : decode cc pc = .ok (.putfield 25, 3)) (kk : ch_W X E nL S (ch_st μ k 12 i 6 x) kc ks (pc + 3) L st) : ch_W X E nL S μ kc ks pc L (.int x :: .ref (S.1 k 12 i) :: st) :=
  ca_puti (ci := 10) (j := 6) (ty := .int) h rfl rfl li_X10 tyX10 tyX10_ok nmX10 rfl hv (by decide) rfl kw_48 rfl (by decide +kernel) rfl rfl (fun z => absurd z (by decide)) hd kk
theorem gi_X10_28 {X : ch_X} {E : ch_E} {cc : ByteArray} {nL : Nat} {S : ch_S} {μ : ch_M} {kc ks pc : Nat} {L : List (Nat × Value)} {st : List Value} (h : ch_H X E RX10 cc nL) {k i : Nat} (hv : S.2.1 k 12 i) (hd : decode cc pc = .ok (.getfield 28, 3)) (kk : ch_W X E nL S μ kc ks (pc + 3) L (.int (μ k 12 i 1) :: st)) : ch_W X E nL S μ kc ks pc L (.ref (S.1 k 12 i) :: st) :=
  ca_geti (ci := 10) (j := 1) h rfl rfl li_X10 rfl hv (by decide) rfl kw_42 hd kk
theorem pi_X10_28 {X : ch_X} {E : ch_E} {cc : ByteArray} {nL : Nat} {S : ch_S} {μ : ch_M} {kc ks pc : Nat} {L : List (Nat × Value)} {st : List Value} (h : ch_H X E RX10 cc nL) {k i : Nat} {x : Int32} (hv : S.2.1 k 12 i) (hd : decode cc pc = .ok (.putfield 28, 3)) (kk : ch_W X E nL S (ch_st μ k 12 i 1 x) kc ks (pc + 3) L st) : ch_W X E nL S μ kc ks pc L (.int x :: .ref (S.1 k 12 i) :: st) :=
  ca_puti (ci := 10) (j := 1) (ty := .int) h rfl rfl li_X10 tyX10 tyX10_ok nmX10 rfl hv (by decide) rfl kw_42 rfl (by decide +kernel) rfl rfl (fun z => absurd z (by decide)) hd kk
theorem gi_X10_34 {X : ch_X} {E : ch_E} {cc : ByteArray} {nL : Nat} {S : ch_S} {μ : ch_M} {kc ks pc : Nat} {L : List (Nat × Value)} {st : List Value} (h : ch_H X E RX10 cc nL) {k i : Nat} (hv : S.2.1 k 12 i) (hd : decode cc pc = .ok (.getfield 34, 3)) (kk : ch_W X E nL S μ kc ks (pc + 3) L (.int (μ k 12 i 5) :: st)) : ch_W X E nL S μ kc ks pc L (.ref (S.1 k 12 i) :: st) :=
  ca_geti (ci := 10) (j := 5) h rfl rfl li_X10 rfl hv (by decide) rfl kw_47 hd kk
theorem pi_X10_34 {X : ch_X} {E : ch_E} {cc : ByteArray} {nL : Nat} {S : ch_S} {μ : ch_M} {kc ks pc : Nat} {L : List (Nat × Value)} {st : List Value} (h : ch_H X E RX10 cc nL) {k i : Nat} {x : Int32} (hv : S.2.1 k 12 i) (hd : decode cc pc = .ok (.putfield 34, 3)) (kk : ch_W X E nL S (ch_st μ k 12 i 5 x) kc ks (pc + 3) L st) : ch_W X E nL S μ kc ks pc L (.int x :: .ref (S.1 k 12 i) :: st) :=
  ca_puti (ci := 10) (j := 5) (ty := .int) h rfl rfl li_X10 tyX10 tyX10_ok nmX10 rfl hv (by decide) rfl kw_47 rfl (by decide +kernel) rfl rfl (fun z => absurd z (by decide)) hd kk
theorem gi_X10_50 {X : ch_X} {E : ch_E} {cc : ByteArray} {nL : Nat} {S : ch_S} {μ : ch_M} {kc ks pc : Nat} {L : List (Nat × Value)} {st : List Value} (h : ch_H X E RX10 cc nL) {k i : Nat} (hv : S.2.1 k 12 i) (hd : decode cc pc = .ok (.getfield 50, 3)) (kk : ch_W X E nL S μ kc ks (pc + 3) L (.int (μ k 12 i 7) :: st)) : ch_W X E nL S μ kc ks pc L (.ref (S.1 k 12 i) :: st) :=
  ca_geti (ci := 10) (j := 7) h rfl rfl li_X10 rfl hv (by decide) rfl kw_49 hd kk
theorem pi_X10_50 {X : ch_X} {E : ch_E} {cc : ByteArray} {nL : Nat} {S : ch_S} {μ : ch_M} {kc ks pc : Nat} {L : List (Nat × Value)} {st : List Value} (h : ch_H X E RX10 cc nL) {k i : Nat} {x : Int32} (hv : S.2.1 k 12 i) (hd : decode cc pc = .ok (.putfield 50, 3)) (kk : ch_W X E nL S (ch_st μ k 12 i 7 x) kc ks (pc + 3) L st) : ch_W X E nL S μ kc ks pc L (.int x :: .ref (S.1 k 12 i) :: st) :=
  ca_puti (ci := 10) (j := 7) (ty := .int) h rfl rfl li_X10 tyX10 tyX10_ok nmX10 rfl hv (by decide) rfl kw_49 rfl (by decide +kernel) rfl rfl (fun z => absurd z (by decide)) hd kk
theorem gi_X12_7 {X : ch_X} {E : ch_E} {cc : ByteArray} {nL : Nat} {S : ch_S} {μ : ch_M} {kc ks pc : Nat} {L : List (Nat × Value)} {st : List Value} (h : ch_H X E RX12 cc nL) {k i : Nat} (hv : S.2.1 k 23 i) (hd : decode cc pc = .ok (.getfield 7, 3)) (kk : ch_W X E nL S μ kc ks (pc + 3) L (.int (μ k 23 i 5) :: st)) : ch_W X E nL S μ kc ks pc L (.ref (S.1 k 23 i) :: st) :=
  ca_geti (ci := 12) (j := 5) h rfl rfl li_X12 rfl hv (by decide) rfl kw_1057 hd kk
theorem pi_X12_7 {X : ch_X} {E : ch_E} {cc : ByteArray} {nL : Nat} {S : ch_S} {μ : ch_M} {kc ks pc : Nat} {L : List (Nat × Value)} {st : List Value} (h : ch_H X E RX12 cc nL) {k i : Nat} {x : Int32} (hv : S.2.1 k 23 i) (hd : decode cc pc = .ok (.putfield 7, 3)) (kk : ch_W X E nL S (ch_st μ k 23 i 5 x) kc ks (pc + 3) L st) : ch_W X E nL S μ kc ks pc L (.int x :: .ref (S.1 k 23 i) :: st) :=
  ca_puti (ci := 12) (j := 5) (ty := .int) h rfl rfl li_X12 tyX12 tyX12_ok nmX12 rfl hv (by decide) rfl kw_1057 rfl (by decide +kernel) rfl rfl (fun z => absurd z (by decide)) hd kk
theorem gi_X12_13 {X : ch_X} {E : ch_E} {cc : ByteArray} {nL : Nat} {S : ch_S} {μ : ch_M} {kc ks pc : Nat} {L : List (Nat × Value)} {st : List Value} (h : ch_H X E RX12 cc nL) {k i : Nat} (hv : S.2.1 k 23 i) (hd : decode cc pc = .ok (.getfield 13, 3)) (kk : ch_W X E nL S μ kc ks (pc + 3) L (.int (μ k 23 i 8) :: st)) : ch_W X E nL S μ kc ks pc L (.ref (S.1 k 23 i) :: st) :=
  ca_geti (ci := 12) (j := 8) h rfl rfl li_X12 rfl hv (by decide) rfl kw_1063 hd kk
theorem pi_X12_13 {X : ch_X} {E : ch_E} {cc : ByteArray} {nL : Nat} {S : ch_S} {μ : ch_M} {kc ks pc : Nat} {L : List (Nat × Value)} {st : List Value} (h : ch_H X E RX12 cc nL) {k i : Nat} {x : Int32} (hv : S.2.1 k 23 i) (hd : decode cc pc = .ok (.putfield 13, 3)) (kk : ch_W X E nL S (ch_st μ k 23 i 8 x) kc ks (pc + 3) L st) : ch_W X E nL S μ kc ks pc L (.int x :: .ref (S.1 k 23 i) :: st) :=
  ca_puti (ci := 12) (j := 8) (ty := .int) h rfl rfl li_X12 tyX12 tyX12_ok nmX12 rfl hv (by decide) rfl kw_1063 rfl (by decide +kernel) rfl rfl (fun z => absurd z (by decide)) hd kk
theorem gr_X12_16 {X : ch_X} {E : ch_E} {cc : ByteArray} {nL : Nat} {S : ch_S} {μ : ch_M} {kc ks pc : Nat} {L : List (Nat × Value)} {st : List Value} (h : ch_H X E RX12 cc nL) {k i : Nat} {r : Option Nat} (hv : S.2.1 k 23 i) (hx : S.2.2 k 23 i 11 = r) (hd : decode cc pc = .ok (.getfield 16, 3)) (kk : ch_W X E nL S μ kc ks (pc + 3) L (va_rf r :: st)) : ch_W X E nL S μ kc ks pc L (.ref (S.1 k 23 i) :: st) :=
  ca_getr (ci := 12) (j := 11) h rfl rfl li_X12 rfl hv (by decide) rfl kw_1067 hx hd kk
theorem gr_X12_22 {X : ch_X} {E : ch_E} {cc : ByteArray} {nL : Nat} {S : ch_S} {μ : ch_M} {kc ks pc : Nat} {L : List (Nat × Value)} {st : List Value} (h : ch_H X E RX12 cc nL) {k i : Nat} {r : Option Nat} (hv : S.2.1 k 23 i) (hx : S.2.2 k 23 i 12 = r) (hd : decode cc pc = .ok (.getfield 22, 3)) (kk : ch_W X E nL S μ kc ks (pc + 3) L (va_rf r :: st)) : ch_W X E nL S μ kc ks pc L (.ref (S.1 k 23 i) :: st) :=
  ca_getr (ci := 12) (j := 12) h rfl rfl li_X12 rfl hv (by decide) rfl kw_1069 hx hd kk
theorem gi_X12_38 {X : ch_X} {E : ch_E} {cc : ByteArray} {nL : Nat} {S : ch_S} {μ : ch_M} {kc ks pc : Nat} {L : List (Nat × Value)} {st : List Value} (h : ch_H X E RX12 cc nL) {k i : Nat} (hv : S.2.1 k 23 i) (hd : decode cc pc = .ok (.getfield 38, 3)) (kk : ch_W X E nL S μ kc ks (pc + 3) L (.int (μ k 23 i 4) :: st)) : ch_W X E nL S μ kc ks pc L (.ref (S.1 k 23 i) :: st) :=
  ca_geti (ci := 12) (j := 4) h rfl rfl li_X12 rfl hv (by decide) rfl kw_1054 hd kk
theorem pi_X12_38 {X : ch_X} {E : ch_E} {cc : ByteArray} {nL : Nat} {S : ch_S} {μ : ch_M} {kc ks pc : Nat} {L : List (Nat × Value)} {st : List Value} (h : ch_H X E RX12 cc nL) {k i : Nat} {x : Int32} (hv : S.2.1 k 23 i) (hd : decode cc pc = .ok (.putfield 38, 3)) (kk : ch_W X E nL S (ch_st μ k 23 i 4 x) kc ks (pc + 3) L st) : ch_W X E nL S μ kc ks pc L (.int x :: .ref (S.1 k 23 i) :: st) :=
  ca_puti (ci := 12) (j := 4) (ty := .int) h rfl rfl li_X12 tyX12 tyX12_ok nmX12 rfl hv (by decide) rfl kw_1054 rfl (by decide +kernel) rfl rfl (fun z => absurd z (by decide)) hd kk
theorem gi_X12_41 {X : ch_X} {E : ch_E} {cc : ByteArray} {nL : Nat} {S : ch_S} {μ : ch_M} {kc ks pc : Nat} {L : List (Nat × Value)} {st : List Value} (h : ch_H X E RX12 cc nL) {k i : Nat} (hv : S.2.1 k 23 i) (hd : decode cc pc = .ok (.getfield 41, 3)) (kk : ch_W X E nL S μ kc ks (pc + 3) L (.int (μ k 23 i 6) :: st)) : ch_W X E nL S μ kc ks pc L (.ref (S.1 k 23 i) :: st) :=
  ca_geti (ci := 12) (j := 6) h rfl rfl li_X12 rfl hv (by decide) rfl kw_1059 hd kk
theorem pi_X12_41 {X : ch_X} {E : ch_E} {cc : ByteArray} {nL : Nat} {S : ch_S} {μ : ch_M} {kc ks pc : Nat} {L : List (Nat × Value)} {st : List Value} (h : ch_H X E RX12 cc nL) {k i : Nat} {x : Int32} (hv : S.2.1 k 23 i) (hd : decode cc pc = .ok (.putfield 41, 3)) (kk : ch_W X E nL S (ch_st μ k 23 i 6 x) kc ks (pc + 3) L st) : ch_W X E nL S μ kc ks pc L (.int x :: .ref (S.1 k 23 i) :: st) :=
  ca_puti (ci := 12) (j := 6) (ty := .int) h rfl rfl li_X12 tyX12 tyX12_ok nmX12 rfl hv (by decide) rfl kw_1059 rfl (by decide +kernel) rfl rfl (fun z => absurd z (by decide)) hd kk
theorem gi_X12_44 {X : ch_X} {E : ch_E} {cc : ByteArray} {nL : Nat} {S : ch_S} {μ : ch_M} {kc ks pc : Nat} {L : List (Nat × Value)} {st : List Value} (h : ch_H X E RX12 cc nL) {k i : Nat} (hv : S.2.1 k 23 i) (hd : decode cc pc = .ok (.getfield 44, 3)) (kk : ch_W X E nL S μ kc ks (pc + 3) L (.int (μ k 23 i 7) :: st)) : ch_W X E nL S μ kc ks pc L (.ref (S.1 k 23 i) :: st) :=
  ca_geti (ci := 12) (j := 7) h rfl rfl li_X12 rfl hv (by decide) rfl kw_1061 hd kk
theorem pi_X12_44 {X : ch_X} {E : ch_E} {cc : ByteArray} {nL : Nat} {S : ch_S} {μ : ch_M} {kc ks pc : Nat} {L : List (Nat × Value)} {st : List Value} (h : ch_H X E RX12 cc nL) {k i : Nat} {x : Int32} (hv : S.2.1 k 23 i) (hd : decode cc pc = .ok (.putfield 44, 3)) (kk : ch_W X E nL S (ch_st μ k 23 i 7 x) kc ks (pc + 3) L st) : ch_W X E nL S μ kc ks pc L (.int x :: .ref (S.1 k 23 i) :: st) :=
  ca_puti (ci := 12) (j := 7) (ty := .int) h rfl rfl li_X12 tyX12 tyX12_ok nmX12 rfl hv (by decide) rfl kw_1061 rfl (by decide +kernel) rfl rfl (fun z => absurd z (by decide)) hd kk
theorem gi_X13_7 {X : ch_X} {E : ch_E} {cc : ByteArray} {nL : Nat} {S : ch_S} {μ : ch_M} {kc ks pc : Nat} {L : List (Nat × Value)} {st : List Value} (h : ch_H X E RX13 cc nL) {k i : Nat} (hv : S.2.1 k 22 i) (hd : decode cc pc = .ok (.getfield 7, 3)) (kk : ch_W X E nL S μ kc ks (pc + 3) L (.int (μ k 22 i 3) :: st)) : ch_W X E nL S μ kc ks pc L (.ref (S.1 k 22 i) :: st) :=
  ca_geti (ci := 13) (j := 3) h rfl rfl li_X13 rfl hv (by decide) rfl kw_802 hd kk
theorem pi_X13_7 {X : ch_X} {E : ch_E} {cc : ByteArray} {nL : Nat} {S : ch_S} {μ : ch_M} {kc ks pc : Nat} {L : List (Nat × Value)} {st : List Value} (h : ch_H X E RX13 cc nL) {k i : Nat} {x : Int32} (hv : S.2.1 k 22 i) (hd : decode cc pc = .ok (.putfield 7, 3)) (kk : ch_W X E nL S (ch_st μ k 22 i 3 x) kc ks (pc + 3) L st) : ch_W X E nL S μ kc ks pc L (.int x :: .ref (S.1 k 22 i) :: st) :=
  ca_puti (ci := 13) (j := 3) (ty := .int) h rfl rfl li_X13 tyX13 tyX13_ok nmX13 rfl hv (by decide) rfl kw_802 rfl (by decide +kernel) rfl rfl (fun z => absurd z (by decide)) hd kk
theorem gi_X13_13 {X : ch_X} {E : ch_E} {cc : ByteArray} {nL : Nat} {S : ch_S} {μ : ch_M} {kc ks pc : Nat} {L : List (Nat × Value)} {st : List Value} (h : ch_H X E RX13 cc nL) {k i : Nat} (hv : S.2.1 k 22 i) (hd : decode cc pc = .ok (.getfield 13, 3)) (kk : ch_W X E nL S μ kc ks (pc + 3) L (.int (μ k 22 i 4) :: st)) : ch_W X E nL S μ kc ks pc L (.ref (S.1 k 22 i) :: st) :=
  ca_geti (ci := 13) (j := 4) h rfl rfl li_X13 rfl hv (by decide) rfl kw_804 hd kk
theorem pi_X13_13 {X : ch_X} {E : ch_E} {cc : ByteArray} {nL : Nat} {S : ch_S} {μ : ch_M} {kc ks pc : Nat} {L : List (Nat × Value)} {st : List Value} (h : ch_H X E RX13 cc nL) {k i : Nat} {x : Int32} (hv : S.2.1 k 22 i) (hd : decode cc pc = .ok (.putfield 13, 3)) (kk : ch_W X E nL S (ch_st μ k 22 i 4 x) kc ks (pc + 3) L st) : ch_W X E nL S μ kc ks pc L (.int x :: .ref (S.1 k 22 i) :: st) :=
  ca_puti (ci := 13) (j := 4) (ty := .int) h rfl rfl li_X13 tyX13 tyX13_ok nmX13 rfl hv (by decide) rfl kw_804 rfl (by decide +kernel) rfl rfl (fun z => absurd z (by decide)) hd kk
theorem gi_X13_16 {X : ch_X} {E : ch_E} {cc : ByteArray} {nL : Nat} {S : ch_S} {μ : ch_M} {kc ks pc : Nat} {L : List (Nat × Value)} {st : List Value} (h : ch_H X E RX13 cc nL) {k i : Nat} (hv : S.2.1 k 22 i) (hd : decode cc pc = .ok (.getfield 16, 3)) (kk : ch_W X E nL S μ kc ks (pc + 3) L (.int (μ k 22 i 5) :: st)) : ch_W X E nL S μ kc ks pc L (.ref (S.1 k 22 i) :: st) :=
  ca_geti (ci := 13) (j := 5) h rfl rfl li_X13 rfl hv (by decide) rfl kw_806 hd kk
theorem pi_X13_16 {X : ch_X} {E : ch_E} {cc : ByteArray} {nL : Nat} {S : ch_S} {μ : ch_M} {kc ks pc : Nat} {L : List (Nat × Value)} {st : List Value} (h : ch_H X E RX13 cc nL) {k i : Nat} {x : Int32} (hv : S.2.1 k 22 i) (hd : decode cc pc = .ok (.putfield 16, 3)) (kk : ch_W X E nL S (ch_st μ k 22 i 5 x) kc ks (pc + 3) L st) : ch_W X E nL S μ kc ks pc L (.int x :: .ref (S.1 k 22 i) :: st) :=
  ca_puti (ci := 13) (j := 5) (ty := .int) h rfl rfl li_X13 tyX13 tyX13_ok nmX13 rfl hv (by decide) rfl kw_806 rfl (by decide +kernel) rfl rfl (fun z => absurd z (by decide)) hd kk
theorem gi_X13_19 {X : ch_X} {E : ch_E} {cc : ByteArray} {nL : Nat} {S : ch_S} {μ : ch_M} {kc ks pc : Nat} {L : List (Nat × Value)} {st : List Value} (h : ch_H X E RX13 cc nL) {k i : Nat} (hv : S.2.1 k 22 i) (hd : decode cc pc = .ok (.getfield 19, 3)) (kk : ch_W X E nL S μ kc ks (pc + 3) L (.int (μ k 22 i 6) :: st)) : ch_W X E nL S μ kc ks pc L (.ref (S.1 k 22 i) :: st) :=
  ca_geti (ci := 13) (j := 6) h rfl rfl li_X13 rfl hv (by decide) rfl kw_808 hd kk
theorem pi_X13_19 {X : ch_X} {E : ch_E} {cc : ByteArray} {nL : Nat} {S : ch_S} {μ : ch_M} {kc ks pc : Nat} {L : List (Nat × Value)} {st : List Value} (h : ch_H X E RX13 cc nL) {k i : Nat} {x : Int32} (hv : S.2.1 k 22 i) (hd : decode cc pc = .ok (.putfield 19, 3)) (kk : ch_W X E nL S (ch_st μ k 22 i 6 x) kc ks (pc + 3) L st) : ch_W X E nL S μ kc ks pc L (.int x :: .ref (S.1 k 22 i) :: st) :=
  ca_puti (ci := 13) (j := 6) (ty := .int) h rfl rfl li_X13 tyX13 tyX13_ok nmX13 rfl hv (by decide) rfl kw_808 rfl (by decide +kernel) rfl rfl (fun z => absurd z (by decide)) hd kk
theorem gi_X13_22 {X : ch_X} {E : ch_E} {cc : ByteArray} {nL : Nat} {S : ch_S} {μ : ch_M} {kc ks pc : Nat} {L : List (Nat × Value)} {st : List Value} (h : ch_H X E RX13 cc nL) {k i : Nat} (hv : S.2.1 k 22 i) (hd : decode cc pc = .ok (.getfield 22, 3)) (kk : ch_W X E nL S μ kc ks (pc + 3) L (.int (μ k 22 i 7) :: st)) : ch_W X E nL S μ kc ks pc L (.ref (S.1 k 22 i) :: st) :=
  ca_geti (ci := 13) (j := 7) h rfl rfl li_X13 rfl hv (by decide) rfl kw_810 hd kk
theorem pi_X13_22 {X : ch_X} {E : ch_E} {cc : ByteArray} {nL : Nat} {S : ch_S} {μ : ch_M} {kc ks pc : Nat} {L : List (Nat × Value)} {st : List Value} (h : ch_H X E RX13 cc nL) {k i : Nat} {x : Int32} (hv : S.2.1 k 22 i) (hd : decode cc pc = .ok (.putfield 22, 3)) (kk : ch_W X E nL S (ch_st μ k 22 i 7 x) kc ks (pc + 3) L st) : ch_W X E nL S μ kc ks pc L (.int x :: .ref (S.1 k 22 i) :: st) :=
  ca_puti (ci := 13) (j := 7) (ty := .int) h rfl rfl li_X13 tyX13 tyX13_ok nmX13 rfl hv (by decide) rfl kw_810 rfl (by decide +kernel) rfl rfl (fun z => absurd z (by decide)) hd kk
theorem gi_X13_25 {X : ch_X} {E : ch_E} {cc : ByteArray} {nL : Nat} {S : ch_S} {μ : ch_M} {kc ks pc : Nat} {L : List (Nat × Value)} {st : List Value} (h : ch_H X E RX13 cc nL) {k i : Nat} (hv : S.2.1 k 22 i) (hd : decode cc pc = .ok (.getfield 25, 3)) (kk : ch_W X E nL S μ kc ks (pc + 3) L (.int (μ k 22 i 8) :: st)) : ch_W X E nL S μ kc ks pc L (.ref (S.1 k 22 i) :: st) :=
  ca_geti (ci := 13) (j := 8) h rfl rfl li_X13 rfl hv (by decide) rfl kw_812 hd kk
theorem pi_X13_25 {X : ch_X} {E : ch_E} {cc : ByteArray} {nL : Nat} {S : ch_S} {μ : ch_M} {kc ks pc : Nat} {L : List (Nat × Value)} {st : List Value} (h : ch_H X E RX13 cc nL) {k i : Nat} {x : Int32} (hv : S.2.1 k 22 i) (hd : decode cc pc = .ok (.putfield 25, 3)) (kk : ch_W X E nL S (ch_st μ k 22 i 8 x) kc ks (pc + 3) L st) : ch_W X E nL S μ kc ks pc L (.int x :: .ref (S.1 k 22 i) :: st) :=
  ca_puti (ci := 13) (j := 8) (ty := .int) h rfl rfl li_X13 tyX13 tyX13_ok nmX13 rfl hv (by decide) rfl kw_812 rfl (by decide +kernel) rfl rfl (fun z => absurd z (by decide)) hd kk
theorem gr_X13_30 {X : ch_X} {E : ch_E} {cc : ByteArray} {nL : Nat} {S : ch_S} {μ : ch_M} {kc ks pc : Nat} {L : List (Nat × Value)} {st : List Value} (h : ch_H X E RX13 cc nL) {k i : Nat} {r : Option Nat} (hv : S.2.1 k 22 i) (hx : S.2.2 k 22 i 9 = r) (hd : decode cc pc = .ok (.getfield 30, 3)) (kk : ch_W X E nL S μ kc ks (pc + 3) L (va_rf r :: st)) : ch_W X E nL S μ kc ks pc L (.ref (S.1 k 22 i) :: st) :=
  ca_getr (ci := 13) (j := 9) h rfl rfl li_X13 rfl hv (by decide) rfl kw_814 hx hd kk
theorem gr_X13_35 {X : ch_X} {E : ch_E} {cc : ByteArray} {nL : Nat} {S : ch_S} {μ : ch_M} {kc ks pc : Nat} {L : List (Nat × Value)} {st : List Value} (h : ch_H X E RX13 cc nL) {k i : Nat} {r : Option Nat} (hv : S.2.1 k 22 i) (hx : S.2.2 k 22 i 10 = r) (hd : decode cc pc = .ok (.getfield 35, 3)) (kk : ch_W X E nL S μ kc ks (pc + 3) L (va_rf r :: st)) : ch_W X E nL S μ kc ks pc L (.ref (S.1 k 22 i) :: st) :=
  ca_getr (ci := 13) (j := 10) h rfl rfl li_X13 rfl hv (by decide) rfl kw_816 hx hd kk
theorem gr_X13_38 {X : ch_X} {E : ch_E} {cc : ByteArray} {nL : Nat} {S : ch_S} {μ : ch_M} {kc ks pc : Nat} {L : List (Nat × Value)} {st : List Value} (h : ch_H X E RX13 cc nL) {k i : Nat} {r : Option Nat} (hv : S.2.1 k 22 i) (hx : S.2.2 k 22 i 11 = r) (hd : decode cc pc = .ok (.getfield 38, 3)) (kk : ch_W X E nL S μ kc ks (pc + 3) L (va_rf r :: st)) : ch_W X E nL S μ kc ks pc L (.ref (S.1 k 22 i) :: st) :=
  ca_getr (ci := 13) (j := 11) h rfl rfl li_X13 rfl hv (by decide) rfl kw_818 hx hd kk
theorem gr_X13_41 {X : ch_X} {E : ch_E} {cc : ByteArray} {nL : Nat} {S : ch_S} {μ : ch_M} {kc ks pc : Nat} {L : List (Nat × Value)} {st : List Value} (h : ch_H X E RX13 cc nL) {k i : Nat} {r : Option Nat} (hv : S.2.1 k 22 i) (hx : S.2.2 k 22 i 12 = r) (hd : decode cc pc = .ok (.getfield 41, 3)) (kk : ch_W X E nL S μ kc ks (pc + 3) L (va_rf r :: st)) : ch_W X E nL S μ kc ks pc L (.ref (S.1 k 22 i) :: st) :=
  ca_getr (ci := 13) (j := 12) h rfl rfl li_X13 rfl hv (by decide) rfl kw_819 hx hd kk
theorem gr_X13_44 {X : ch_X} {E : ch_E} {cc : ByteArray} {nL : Nat} {S : ch_S} {μ : ch_M} {kc ks pc : Nat} {L : List (Nat × Value)} {st : List Value} (h : ch_H X E RX13 cc nL) {k i : Nat} {r : Option Nat} (hv : S.2.1 k 22 i) (hx : S.2.2 k 22 i 13 = r) (hd : decode cc pc = .ok (.getfield 44, 3)) (kk : ch_W X E nL S μ kc ks (pc + 3) L (va_rf r :: st)) : ch_W X E nL S μ kc ks pc L (.ref (S.1 k 22 i) :: st) :=
  ca_getr (ci := 13) (j := 13) h rfl rfl li_X13 rfl hv (by decide) rfl kw_820 hx hd kk
theorem gr_X13_47 {X : ch_X} {E : ch_E} {cc : ByteArray} {nL : Nat} {S : ch_S} {μ : ch_M} {kc ks pc : Nat} {L : List (Nat × Value)} {st : List Value} (h : ch_H X E RX13 cc nL) {k i : Nat} {r : Option Nat} (hv : S.2.1 k 22 i) (hx : S.2.2 k 22 i 14 = r) (hd : decode cc pc = .ok (.getfield 47, 3)) (kk : ch_W X E nL S μ kc ks (pc + 3) L (va_rf r :: st)) : ch_W X E nL S μ kc ks pc L (.ref (S.1 k 22 i) :: st) :=
  ca_getr (ci := 13) (j := 14) h rfl rfl li_X13 rfl hv (by decide) rfl kw_821 hx hd kk
theorem gr_X13_52 {X : ch_X} {E : ch_E} {cc : ByteArray} {nL : Nat} {S : ch_S} {μ : ch_M} {kc ks pc : Nat} {L : List (Nat × Value)} {st : List Value} (h : ch_H X E RX13 cc nL) {k i : Nat} {r : Option Nat} (hv : S.2.1 k 22 i) (hx : S.2.2 k 22 i 15 = r) (hd : decode cc pc = .ok (.getfield 52, 3)) (kk : ch_W X E nL S μ kc ks (pc + 3) L (va_rf r :: st)) : ch_W X E nL S μ kc ks pc L (.ref (S.1 k 22 i) :: st) :=
  ca_getr (ci := 13) (j := 15) h rfl rfl li_X13 rfl hv (by decide) rfl kw_822 hx hd kk
theorem gi_X13_57 {X : ch_X} {E : ch_E} {cc : ByteArray} {nL : Nat} {S : ch_S} {μ : ch_M} {kc ks pc : Nat} {L : List (Nat × Value)} {st : List Value} (h : ch_H X E RX13 cc nL) {k i : Nat} (hv : S.2.1 k 22 i) (hd : decode cc pc = .ok (.getfield 57, 3)) (kk : ch_W X E nL S μ kc ks (pc + 3) L (.int (μ k 22 i 0) :: st)) : ch_W X E nL S μ kc ks pc L (.ref (S.1 k 22 i) :: st) :=
  ca_geti (ci := 13) (j := 0) h rfl rfl li_X13 rfl hv (by decide) rfl kw_797 hd kk
theorem pi_X13_57 {X : ch_X} {E : ch_E} {cc : ByteArray} {nL : Nat} {S : ch_S} {μ : ch_M} {kc ks pc : Nat} {L : List (Nat × Value)} {st : List Value} (h : ch_H X E RX13 cc nL) {k i : Nat} {x : Int32} (hv : S.2.1 k 22 i) (hd : decode cc pc = .ok (.putfield 57, 3)) (kk : ch_W X E nL S (ch_st μ k 22 i 0 x) kc ks (pc + 3) L st) : ch_W X E nL S μ kc ks pc L (.int x :: .ref (S.1 k 22 i) :: st) :=
  ca_puti (ci := 13) (j := 0) (ty := .int) h rfl rfl li_X13 tyX13 tyX13_ok nmX13 rfl hv (by decide) rfl kw_797 rfl (by decide +kernel) rfl rfl (fun z => absurd z (by decide)) hd kk
theorem gi_X13_60 {X : ch_X} {E : ch_E} {cc : ByteArray} {nL : Nat} {S : ch_S} {μ : ch_M} {kc ks pc : Nat} {L : List (Nat × Value)} {st : List Value} (h : ch_H X E RX13 cc nL) {k i : Nat} (hv : S.2.1 k 22 i) (hd : decode cc pc = .ok (.getfield 60, 3)) (kk : ch_W X E nL S μ kc ks (pc + 3) L (.int (μ k 22 i 1) :: st)) : ch_W X E nL S μ kc ks pc L (.ref (S.1 k 22 i) :: st) :=
  ca_geti (ci := 13) (j := 1) h rfl rfl li_X13 rfl hv (by decide) rfl kw_799 hd kk
theorem pi_X13_60 {X : ch_X} {E : ch_E} {cc : ByteArray} {nL : Nat} {S : ch_S} {μ : ch_M} {kc ks pc : Nat} {L : List (Nat × Value)} {st : List Value} (h : ch_H X E RX13 cc nL) {k i : Nat} {x : Int32} (hv : S.2.1 k 22 i) (hd : decode cc pc = .ok (.putfield 60, 3)) (kk : ch_W X E nL S (ch_st μ k 22 i 1 x) kc ks (pc + 3) L st) : ch_W X E nL S μ kc ks pc L (.int x :: .ref (S.1 k 22 i) :: st) :=
  ca_puti (ci := 13) (j := 1) (ty := .int) h rfl rfl li_X13 tyX13 tyX13_ok nmX13 rfl hv (by decide) rfl kw_799 rfl (by decide +kernel) rfl rfl (fun z => absurd z (by decide)) hd kk
theorem gi_X13_63 {X : ch_X} {E : ch_E} {cc : ByteArray} {nL : Nat} {S : ch_S} {μ : ch_M} {kc ks pc : Nat} {L : List (Nat × Value)} {st : List Value} (h : ch_H X E RX13 cc nL) {k i : Nat} (hv : S.2.1 k 22 i) (hd : decode cc pc = .ok (.getfield 63, 3)) (kk : ch_W X E nL S μ kc ks (pc + 3) L (.int (μ k 22 i 2) :: st)) : ch_W X E nL S μ kc ks pc L (.ref (S.1 k 22 i) :: st) :=
  ca_geti (ci := 13) (j := 2) h rfl rfl li_X13 rfl hv (by decide) rfl kw_801 hd kk
theorem pi_X13_63 {X : ch_X} {E : ch_E} {cc : ByteArray} {nL : Nat} {S : ch_S} {μ : ch_M} {kc ks pc : Nat} {L : List (Nat × Value)} {st : List Value} (h : ch_H X E RX13 cc nL) {k i : Nat} {x : Int32} (hv : S.2.1 k 22 i) (hd : decode cc pc = .ok (.putfield 63, 3)) (kk : ch_W X E nL S (ch_st μ k 22 i 2 x) kc ks (pc + 3) L st) : ch_W X E nL S μ kc ks pc L (.int x :: .ref (S.1 k 22 i) :: st) :=
  ca_puti (ci := 13) (j := 2) (ty := .int) h rfl rfl li_X13 tyX13 tyX13_ok nmX13 rfl hv (by decide) rfl kw_801 rfl (by decide +kernel) rfl rfl (fun z => absurd z (by decide)) hd kk
theorem ml_X11_58 : ch_LV RX11 58 yX10_append cX10_append 3 none 1 := ⟨kw_919, kw_920, kw_921, kw_2, kw_922, by decide, by decide, by decide +kernel⟩
theorem ms_X11_62 : ch_LS RX11 62 yX11_requireRange cX11_requireRange 3 none 3 := ⟨kw_410, kw_411, kw_1, kw_412, by decide, by decide, by decide +kernel⟩
theorem ml_X11_66 : ch_LV RX11 66 yX10_open cX10_open 2 none 1 := ⟨kw_938, kw_939, kw_940, kw_2, kw_941, by decide, by decide, by decide +kernel⟩
theorem ml_X11_74 : ch_LV RX11 74 yX4_readNetwork cX4_readNetwork 2 none 0 := ⟨kw_967, kw_968, kw_969, kw_23, kw_970, by decide, by decide, by decide +kernel⟩
theorem ml_X11_77 : ch_LV RX11 77 yX10_close cX10_close 1 none 0 := ⟨kw_1033, kw_1034, kw_1035, kw_2, kw_1036, by decide, by decide, by decide +kernel⟩
theorem ml_X11_83 : ch_LV RX11 83 yX3_copyFrom cX3_copyFrom 4 none 1 := ⟨kw_716, kw_486, kw_487, kw_3, kw_488, by decide, by decide, by decide +kernel⟩
theorem ml_X11_87 : ch_LV RX11 87 yX1_forget cX1_forget 1 none 0 := ⟨kw_721, kw_722, kw_723, kw_7, kw_724, by decide, by decide, by decide +kernel⟩
theorem ml_X11_105 : ch_LV RX11 105 yX11_requireCell cX11_requireCell 2 none 1 := ⟨kw_1187, kw_1189, ks_44, kw_1, kw_1190, by decide, by decide, by decide +kernel⟩
theorem ml_X11_108 : ch_LV RX11 108 yX3_relationAt cX3_relationAt 5 (some (FieldType.object "CellHandover$Relation")) 2 := ⟨kw_1192, kw_498, kw_499, kw_3, kw_500, by decide, by decide, by decide +kernel⟩
theorem ml_X11_120 : ch_LV RX11 120 yX3_cellAt cX3_cellAt 3 (some (FieldType.object "CellHandover$Cell")) 1 := ⟨kw_1243, kw_490, kw_491, kw_3, kw_492, by decide, by decide, by decide +kernel⟩
theorem ml_X11_130 : ch_LV RX11 130 yX3_coveringCell cX3_coveringCell 4 (some FieldType.int) 2 := ⟨kw_1144, kw_1145, kw_1146, kw_3, kw_1147, by decide, by decide, by decide +kernel⟩
theorem ml_X11_140 : ch_LV RX11 140 yX1_record cX1_record 3 none 1 := ⟨kw_481, kw_482, kw_483, kw_7, kw_484, by decide, by decide, by decide +kernel⟩
theorem ml_X11_143 : ch_LV RX11 143 yX3_mobileAt cX3_mobileAt 3 (some (FieldType.object "CellHandover$Mobile")) 1 := ⟨kw_1102, kw_506, kw_507, kw_3, kw_508, by decide, by decide, by decide +kernel⟩
theorem ml_X11_147 : ch_LV RX11 147 yX2_place cX2_place 5 none 4 := ⟨kw_1103, kw_1104, kw_1105, kw_6, kw_1106, by decide, by decide, by decide +kernel⟩
theorem ml_X11_153 : ch_LV RX11 153 yX11_requireMobile cX11_requireMobile 2 none 1 := ⟨kw_1124, kw_1126, ks_41, kw_1, kw_1127, by decide, by decide, by decide +kernel⟩
theorem ml_X11_171 : ch_LV RX11 171 yX3_setUpCall cX3_setUpCall 5 (some FieldType.int) 3 := ⟨kw_1157, kw_1158, kw_1159, kw_3, kw_1160, by decide, by decide, by decide +kernel⟩
theorem ml_X11_175 : ch_LV RX11 175 yX2_becomeIdle cX2_becomeIdle 1 none 0 := ⟨kw_1178, kw_580, kw_581, kw_6, kw_582, by decide, by decide, by decide +kernel⟩
theorem ml_X11_178 : ch_LV RX11 178 yX11_requireTicks cX11_requireTicks 3 none 2 := ⟨kw_406, kw_408, ks_1, kw_1, kw_409, by decide, by decide, by decide +kernel⟩
theorem ml_X11_182 : ch_LV RX11 182 yX3_totalOf cX3_totalOf 2 (some FieldType.int) 1 := ⟨kw_524, kw_525, kw_526, kw_3, kw_527, by decide, by decide, by decide +kernel⟩
theorem ml_X11_186 : ch_LV RX11 186 yX8_advance cX8_advance 4 none 2 := ⟨kw_528, kw_529, kw_530, kw_8, kw_531, by decide, by decide, by decide +kernel⟩
theorem ml_X11_199 : ch_LV RX11 199 yX2_averageOf cX2_averageOf 6 (some FieldType.int) 1 := ⟨kw_1228, kw_599, kw_600, kw_6, kw_601, by decide, by decide, by decide +kernel⟩
theorem ml_X11_202 : ch_LV RX11 202 yX2_reportsOf cX2_reportsOf 2 (some FieldType.int) 1 := ⟨kw_1233, kw_564, kw_565, kw_6, kw_566, by decide, by decide, by decide +kernel⟩
theorem ml_X11_205 : ch_LV RX11 205 yX2_isBarredAt cX2_isBarredAt 3 (some FieldType.boolean) 2 := ⟨kw_1238, kw_635, kw_636, kw_6, kw_637, by decide, by decide, by decide +kernel⟩
theorem ms_X11_209 : ch_LS RX11 209 yX11_requireIndex cX11_requireIndex 1 none 1 := ⟨kw_1273, kw_1274, kw_1, kw_1275, by decide, by decide, by decide +kernel⟩
theorem ml_X11_212 : ch_LV RX11 212 yX8_candidateAt cX8_candidateAt 4 (some FieldType.int) 3 := ⟨kw_1282, kw_1283, kw_1284, kw_8, kw_1285, by decide, by decide, by decide +kernel⟩
theorem ml_X11_216 : ch_LV RX11 216 yX3_talkersIn cX3_talkersIn 5 (some FieldType.int) 1 := ⟨kw_1268, kw_611, kw_612, kw_3, kw_613, by decide, by decide, by decide +kernel⟩
theorem ml_X11_219 : ch_LV RX11 219 yX3_requestsAt cX3_requestsAt 4 (some FieldType.int) 1 := ⟨kw_1263, kw_681, kw_682, kw_3, kw_683, by decide, by decide, by decide +kernel⟩
theorem ml_X11_222 : ch_LV RX11 222 yX3_queuedMobile cX3_queuedMobile 4 (some FieldType.int) 2 := ⟨kw_1277, kw_615, kw_616, kw_3, kw_617, by decide, by decide, by decide +kernel⟩
theorem ml_X11_237 : ch_LV RX11 237 yX1_takeBack cX1_takeBack 4 none 1 := ⟨kw_708, kw_709, kw_710, kw_7, kw_711, by decide, by decide, by decide +kernel⟩
theorem ms_X11_240 : ch_LS RX11 240 yJ9_min_7cf53 cJ9_min_7cf53 2 (some FieldType.int) 2 := ⟨kw_516, kw_517, kw_15, kw_518, by decide, by decide, by decide +kernel⟩
theorem ms_X0_13 : ch_LS RX0 13 yJ9_abs_0f7a4 cJ9_abs_0f7a4 1 (some FieldType.int) 1 := ⟨kw_555, kw_556, kw_15, kw_557, by decide, by decide, by decide +kernel⟩
theorem ms_X0_28 : ch_LS RX0 28 yJ9_max_7cf53 cJ9_max_7cf53 2 (some FieldType.int) 2 := ⟨kw_558, kw_539, kw_15, kw_540, by decide, by decide, by decide +kernel⟩
theorem ml_X1_25 : ch_LV RX1 25 yX3_copyFrom cX3_copyFrom 4 none 1 := ⟨kw_485, kw_486, kw_487, kw_3, kw_488, by decide, by decide, by decide +kernel⟩
theorem ms_X1_29 : ch_LS RX1 29 yJ9_min_7cf53 cJ9_min_7cf53 2 (some FieldType.int) 2 := ⟨kw_523, kw_517, kw_15, kw_518, by decide, by decide, by decide +kernel⟩
theorem ml_X2_40 : ch_LV RX2 40 yX2_becomeIdle cX2_becomeIdle 1 none 0 := ⟨kw_1107, kw_580, kw_581, kw_6, kw_582, by decide, by decide, by decide +kernel⟩
theorem ml_X2_55 : ch_LV RX2 55 yX2_clearMeasurements cX2_clearMeasurements 1 none 0 := ⟨kw_583, kw_585, ks_8, kw_6, kw_586, by decide, by decide, by decide +kernel⟩
theorem ml_X2_58 : ch_LV RX2 58 yX2_makeRequest cX2_makeRequest 3 none 2 := ⟨kw_1172, kw_685, kw_686, kw_6, kw_687, by decide, by decide, by decide +kernel⟩
theorem ml_X2_62 : ch_LV RX2 62 yX2_reportsOf cX2_reportsOf 2 (some FieldType.int) 1 := ⟨kw_563, kw_564, kw_565, kw_6, kw_566, by decide, by decide, by decide +kernel⟩
theorem ml_X2_66 : ch_LV RX2 66 yX2_dropOldest cX2_dropOldest 4 none 2 := ⟨kw_567, kw_569, ks_6, kw_6, kw_570, by decide, by decide, by decide +kernel⟩
theorem ms_X2_69 : ch_LS RX2 69 yJ7_fill_53178 cJ7_fill_53178 4 none 2 := ⟨kw_587, kw_588, kw_17, kw_589, by decide, by decide, by decide +kernel⟩
theorem ml_X3_48 : ch_LV RX3 48 yX3_setDefaults cX3_setDefaults 1 none 0 := ⟨kw_231, kw_233, ks_0, kw_3, kw_234, by decide, by decide, by decide +kernel⟩
theorem ml_X3_82 : ch_LV RX3 82 yX3_relationAt cX3_relationAt 5 (some (FieldType.object "CellHandover$Relation")) 2 := ⟨kw_497, kw_498, kw_499, kw_3, kw_500, by decide, by decide, by decide +kernel⟩
theorem ml_X3_86 : ch_LV RX3 86 yX7_clear cX7_clear 1 none 0 := ⟨kw_975, kw_976, kw_977, kw_5, kw_978, by decide, by decide, by decide +kernel⟩
theorem ms_X3_89 : ch_LS RX3 89 yJ7_fill_53178 cJ7_fill_53178 4 none 2 := ⟨kw_979, kw_588, kw_17, kw_589, by decide, by decide, by decide +kernel⟩
theorem ml_X3_95 : ch_LV RX3 95 yX3_cellAt cX3_cellAt 3 (some (FieldType.object "CellHandover$Cell")) 1 := ⟨kw_489, kw_490, kw_491, kw_3, kw_492, by decide, by decide, by decide +kernel⟩
theorem ml_X3_99 : ch_LV RX3 99 yX0_copyFrom cX0_copyFrom 2 none 1 := ⟨kw_493, kw_494, kw_495, kw_4, kw_496, by decide, by decide, by decide +kernel⟩
theorem ml_X3_103 : ch_LV RX3 103 yX7_copyFrom cX7_copyFrom 2 none 1 := ⟨kw_501, kw_502, kw_503, kw_5, kw_504, by decide, by decide, by decide +kernel⟩
theorem ml_X3_106 : ch_LV RX3 106 yX3_mobileAt cX3_mobileAt 3 (some (FieldType.object "CellHandover$Mobile")) 1 := ⟨kw_505, kw_506, kw_507, kw_3, kw_508, by decide, by decide, by decide +kernel⟩
theorem ml_X3_110 : ch_LV RX3 110 yX2_copyFrom cX2_copyFrom 2 none 1 := ⟨kw_509, kw_510, kw_511, kw_6, kw_512, by decide, by decide, by decide +kernel⟩
theorem ml_X3_117 : ch_LV RX3 117 yX0_levelAt cX0_levelAt 4 (some FieldType.int) 2 := ⟨kw_1152, kw_552, kw_553, kw_4, kw_554, by decide, by decide, by decide +kernel⟩
theorem ml_X3_121 : ch_LV RX3 121 yX3_loudestCell cX3_loudestCell 7 (some FieldType.int) 2 := ⟨kw_1148, kw_1149, kw_1150, kw_3, kw_1151, by decide, by decide, by decide +kernel⟩
theorem ml_X3_124 : ch_LV RX3 124 yX3_canBeUsed cX3_canBeUsed 5 (some FieldType.boolean) 3 := ⟨kw_1153, kw_1155, ks_42, kw_3, kw_1156, by decide, by decide, by decide +kernel⟩
theorem ml_X3_137 : ch_LV RX3 137 yX3_talkersIn cX3_talkersIn 5 (some FieldType.int) 1 := ⟨kw_610, kw_611, kw_612, kw_3, kw_613, by decide, by decide, by decide +kernel⟩
theorem ml_X3_147 : ch_LV RX3 147 yX3_requestsAt cX3_requestsAt 4 (some FieldType.int) 1 := ⟨kw_680, kw_681, kw_682, kw_3, kw_683, by decide, by decide, by decide +kernel⟩
theorem ml_X3_153 : ch_LV RX3 153 yX3_requestsBefore cX3_requestsBefore 5 (some FieldType.int) 1 := ⟨kw_618, kw_620, ks_11, kw_3, kw_621, by decide, by decide, by decide +kernel⟩
theorem ml_X3_156 : ch_LV RX3 156 yX3_comesBefore cX3_comesBefore 5 (some FieldType.boolean) 2 := ⟨kw_622, kw_624, ks_12, kw_3, kw_625, by decide, by decide, by decide +kernel⟩
theorem ml_X3_163 : ch_LV RX3 163 yX3_hasFreeChannel cX3_hasFreeChannel 2 (some FieldType.boolean) 1 := ⟨kw_1161, kw_607, kw_608, kw_3, kw_609, by decide, by decide, by decide +kernel⟩
theorem ml_X3_173 : ch_LV RX3 173 yX3_retryCell cX3_retryCell 8 (some FieldType.int) 3 := ⟨kw_1162, kw_1164, ks_43, kw_3, kw_1165, by decide, by decide, by decide +kernel⟩
theorem ml_X3_177 : ch_LV RX3 177 yX3_count cX3_count 2 none 1 := ⟨kw_638, kw_591, kw_592, kw_3, kw_593, by decide, by decide, by decide +kernel⟩
theorem ml_X3_184 : ch_LV RX3 184 yX2_beginToTalk cX2_beginToTalk 2 none 1 := ⟨kw_1166, kw_644, kw_645, kw_6, kw_646, by decide, by decide, by decide +kernel⟩
theorem ml_X3_187 : ch_LV RX3 187 yX3_hasQueuePlace cX3_hasQueuePlace 2 (some FieldType.boolean) 1 := ⟨kw_1167, kw_677, kw_678, kw_3, kw_679, by decide, by decide, by decide +kernel⟩
theorem ml_X3_190 : ch_LV RX3 190 yX2_waitForSetUp cX2_waitForSetUp 3 none 2 := ⟨kw_1168, kw_1169, kw_1170, kw_6, kw_1171, by decide, by decide, by decide +kernel⟩
theorem ml_X3_198 : ch_LV RX3 198 yX2_isBarredAt cX2_isBarredAt 3 (some FieldType.boolean) 2 := ⟨kw_634, kw_635, kw_636, kw_6, kw_637, by decide, by decide, by decide +kernel⟩
theorem ml_X3_201 : ch_LV RX3 201 yX2_bar cX2_bar 3 none 2 := ⟨kw_639, kw_640, kw_641, kw_6, kw_642, by decide, by decide, by decide +kernel⟩
theorem ml_X4_19 : ch_LV RX4 19 yX3_clear cX3_clear 3 none 0 := ⟨kw_971, kw_972, kw_973, kw_3, kw_974, by decide, by decide, by decide +kernel⟩
theorem ml_X4_24 : ch_LV RX4 24 yX10_goesOn cX10_goesOn 1 (some FieldType.boolean) 0 := ⟨kw_980, kw_981, kw_982, kw_2, kw_983, by decide, by decide, by decide +kernel⟩
theorem ml_X4_30 : ch_LV RX4 30 yX4_readClause cX4_readClause 1 none 0 := ⟨kw_984, kw_986, ks_34, kw_23, kw_987, by decide, by decide, by decide +kernel⟩
theorem ml_X4_35 : ch_LV RX4 35 yX10_expect cX10_expect 2 none 1 := ⟨kw_1028, kw_1029, kw_1030, kw_2, kw_1031, by decide, by decide, by decide +kernel⟩
theorem ml_X4_41 : ch_LV RX4 41 yX10_is cX10_is 3 (some FieldType.boolean) 1 := ⟨kw_989, kw_990, kw_991, kw_2, kw_992, by decide, by decide, by decide +kernel⟩
theorem ml_X4_45 : ch_LV RX4 45 yX4_readCell cX4_readCell 2 none 0 := ⟨kw_995, kw_997, ks_35, kw_23, kw_998, by decide, by decide, by decide +kernel⟩
theorem ml_X4_50 : ch_LV RX4 50 yX4_readRelation cX4_readRelation 4 none 0 := ⟨kw_1016, kw_1018, ks_36, kw_23, kw_1019, by decide, by decide, by decide +kernel⟩
theorem ml_X4_55 : ch_LV RX4 55 yX4_readSettings cX4_readSettings 1 none 0 := ⟨kw_1023, kw_1025, ks_37, kw_23, kw_1026, by decide, by decide, by decide +kernel⟩
theorem ml_X4_58 : ch_LV RX4 58 yX10_fail cX10_fail 2 none 1 := ⟨kw_999, kw_1000, kw_1001, kw_2, kw_1002, by decide, by decide, by decide +kernel⟩
theorem ml_X4_66 : ch_LV RX4 66 yX10_advance cX10_advance 1 none 0 := ⟨kw_1003, kw_943, kw_944, kw_2, kw_945, by decide, by decide, by decide +kernel⟩
theorem ml_X4_69 : ch_LV RX4 69 yX3_cellAt cX3_cellAt 3 (some (FieldType.object "CellHandover$Cell")) 1 := ⟨kw_1004, kw_490, kw_491, kw_3, kw_492, by decide, by decide, by decide +kernel⟩
theorem ml_X4_73 : ch_LV RX4 73 yX10_takeNumber cX10_takeNumber 4 (some FieldType.int) 2 := ⟨kw_1005, kw_1006, kw_1007, kw_2, kw_1008, by decide, by decide, by decide +kernel⟩
theorem ml_X4_109 : ch_LV RX4 109 yX10_seeNumber cX10_seeNumber 5 (some FieldType.int) 2 := ⟨kw_1020, kw_1010, kw_1011, kw_2, kw_1012, by decide, by decide, by decide +kernel⟩
theorem ml_X4_112 : ch_LV RX4 112 yX3_relationAt cX3_relationAt 5 (some (FieldType.object "CellHandover$Relation")) 2 := ⟨kw_1021, kw_498, kw_499, kw_3, kw_500, by decide, by decide, by decide +kernel⟩
theorem ml_X6_31 : ch_LV RX6 31 yX2_averageOf cX2_averageOf 6 (some FieldType.int) 1 := ⟨kw_659, kw_599, kw_600, kw_6, kw_601, by decide, by decide, by decide +kernel⟩
theorem ml_X6_35 : ch_LV RX6 35 yX3_cellAt cX3_cellAt 3 (some (FieldType.object "CellHandover$Cell")) 1 := ⟨kw_660, kw_490, kw_491, kw_3, kw_492, by decide, by decide, by decide +kernel⟩
theorem ml_X6_49 : ch_LV RX6 49 yX6_marginOf cX6_marginOf 7 (some FieldType.int) 3 := ⟨kw_661, kw_663, ks_16, kw_9, kw_664, by decide, by decide, by decide +kernel⟩
theorem ml_X6_53 : ch_LV RX6 53 yX6_insert cX6_insert 4 none 2 := ⟨kw_668, kw_670, ks_17, kw_9, kw_671, by decide, by decide, by decide +kernel⟩
theorem ml_X6_57 : ch_LV RX6 57 yX3_relationAt cX3_relationAt 5 (some (FieldType.object "CellHandover$Relation")) 2 := ⟨kw_665, kw_498, kw_499, kw_3, kw_500, by decide, by decide, by decide +kernel⟩
theorem ml_X6_66 : ch_LV RX6 66 yX2_reportsOf cX2_reportsOf 2 (some FieldType.int) 1 := ⟨kw_666, kw_564, kw_565, kw_6, kw_566, by decide, by decide, by decide +kernel⟩
theorem ml_X6_75 : ch_LV RX6 75 yX2_isBarredAt cX2_isBarredAt 3 (some FieldType.boolean) 2 := ⟨kw_667, kw_635, kw_636, kw_6, kw_637, by decide, by decide, by decide +kernel⟩
theorem ml_X8_18 : ch_LV RX8 18 yX8_moveMobiles cX8_moveMobiles 4 none 1 := ⟨kw_532, kw_534, ks_3, kw_8, kw_535, by decide, by decide, by decide +kernel⟩
theorem ml_X8_22 : ch_LV RX8 22 yX8_measureLevels cX8_measureLevels 4 none 1 := ⟨kw_541, kw_543, ks_4, kw_8, kw_544, by decide, by decide, by decide +kernel⟩
theorem ml_X8_25 : ch_LV RX8 25 yX8_completeCalls cX8_completeCalls 4 none 1 := ⟨kw_575, kw_577, ks_7, kw_8, kw_578, by decide, by decide, by decide +kernel⟩
theorem ml_X8_28 : ch_LV RX8 28 yX8_dropCalls cX8_dropCalls 5 none 1 := ⟨kw_594, kw_596, ks_9, kw_8, kw_597, by decide, by decide, by decide +kernel⟩
theorem ml_X8_31 : ch_LV RX8 31 yX8_serveQueues cX8_serveQueues 5 none 1 := ⟨kw_602, kw_604, ks_10, kw_8, kw_605, by decide, by decide, by decide +kernel⟩
theorem ml_X8_34 : ch_LV RX8 34 yX8_decideHandovers cX8_decideHandovers 4 none 1 := ⟨kw_647, kw_649, ks_14, kw_8, kw_650, by decide, by decide, by decide +kernel⟩
theorem ml_X8_37 : ch_LV RX8 37 yX8_countCongestion cX8_countCongestion 3 none 1 := ⟨kw_688, kw_690, ks_18, kw_8, kw_691, by decide, by decide, by decide +kernel⟩
theorem ml_X8_40 : ch_LV RX8 40 yX8_expireRequests cX8_expireRequests 4 none 1 := ⟨kw_692, kw_694, ks_19, kw_8, kw_695, by decide, by decide, by decide +kernel⟩
theorem ml_X8_49 : ch_LV RX8 49 yX3_mobileAt cX3_mobileAt 3 (some (FieldType.object "CellHandover$Mobile")) 1 := ⟨kw_536, kw_506, kw_507, kw_3, kw_508, by decide, by decide, by decide +kernel⟩
theorem ml_X8_53 : ch_LV RX8 53 yX6_rank cX6_rank 6 none 2 := ⟨kw_655, kw_656, kw_657, kw_9, kw_658, by decide, by decide, by decide +kernel⟩
theorem ml_X8_57 : ch_LV RX8 57 yX6_cellAtRank cX6_cellAtRank 2 (some FieldType.int) 1 := ⟨kw_672, kw_673, kw_674, kw_9, kw_675, by decide, by decide, by decide +kernel⟩
theorem ms_X8_72 : ch_LS RX8 72 yJ9_min_7cf53 cJ9_min_7cf53 2 (some FieldType.int) 2 := ⟨kw_537, kw_517, kw_15, kw_518, by decide, by decide, by decide +kernel⟩
theorem ms_X8_78 : ch_LS RX8 78 yJ9_max_7cf53 cJ9_max_7cf53 2 (some FieldType.int) 2 := ⟨kw_538, kw_539, kw_15, kw_540, by decide, by decide, by decide +kernel⟩
theorem ml_X8_90 : ch_LV RX8 90 yX8_measure cX8_measure 5 none 2 := ⟨kw_545, kw_547, ks_5, kw_8, kw_548, by decide, by decide, by decide +kernel⟩
theorem ml_X8_99 : ch_LV RX8 99 yX3_relationAt cX3_relationAt 5 (some (FieldType.object "CellHandover$Relation")) 2 := ⟨kw_549, kw_498, kw_499, kw_3, kw_500, by decide, by decide, by decide +kernel⟩
theorem ml_X8_109 : ch_LV RX8 109 yX3_cellAt cX3_cellAt 3 (some (FieldType.object "CellHandover$Cell")) 1 := ⟨kw_550, kw_490, kw_491, kw_3, kw_492, by decide, by decide, by decide +kernel⟩
theorem ml_X8_113 : ch_LV RX8 113 yX0_levelAt cX0_levelAt 4 (some FieldType.int) 2 := ⟨kw_551, kw_552, kw_553, kw_4, kw_554, by decide, by decide, by decide +kernel⟩
theorem ml_X8_121 : ch_LV RX8 121 yX2_addReport cX2_addReport 7 none 3 := ⟨kw_559, kw_560, kw_561, kw_6, kw_562, by decide, by decide, by decide +kernel⟩
theorem ml_X8_125 : ch_LV RX8 125 yX2_clearReports cX2_clearReports 2 none 1 := ⟨kw_571, kw_572, kw_573, kw_6, kw_574, by decide, by decide, by decide +kernel⟩
theorem ml_X8_132 : ch_LV RX8 132 yX2_becomeIdle cX2_becomeIdle 1 none 0 := ⟨kw_579, kw_580, kw_581, kw_6, kw_582, by decide, by decide, by decide +kernel⟩
theorem ml_X8_135 : ch_LV RX8 135 yX3_count cX3_count 2 none 1 := ⟨kw_590, kw_591, kw_592, kw_3, kw_593, by decide, by decide, by decide +kernel⟩
theorem ml_X8_138 : ch_LV RX8 138 yX2_averageOf cX2_averageOf 6 (some FieldType.int) 1 := ⟨kw_598, kw_599, kw_600, kw_6, kw_601, by decide, by decide, by decide +kernel⟩
theorem ml_X8_150 : ch_LV RX8 150 yX3_hasFreeChannel cX3_hasFreeChannel 2 (some FieldType.boolean) 1 := ⟨kw_606, kw_607, kw_608, kw_3, kw_609, by decide, by decide, by decide +kernel⟩
theorem ml_X8_154 : ch_LV RX8 154 yX3_queuedMobile cX3_queuedMobile 4 (some FieldType.int) 2 := ⟨kw_614, kw_615, kw_616, kw_3, kw_617, by decide, by decide, by decide +kernel⟩
theorem ml_X8_157 : ch_LV RX8 157 yX8_serve cX8_serve 4 none 3 := ⟨kw_626, kw_628, ks_13, kw_8, kw_629, by decide, by decide, by decide +kernel⟩
theorem ml_X8_161 : ch_LV RX8 161 yX3_handOver cX3_handOver 4 none 2 := ⟨kw_630, kw_631, kw_632, kw_3, kw_633, by decide, by decide, by decide +kernel⟩
theorem ml_X8_165 : ch_LV RX8 165 yX2_beginToTalk cX2_beginToTalk 2 none 1 := ⟨kw_643, kw_644, kw_645, kw_6, kw_646, by decide, by decide, by decide +kernel⟩
theorem ml_X8_171 : ch_LV RX8 171 yX8_considerHandover cX8_considerHandover 5 none 2 := ⟨kw_651, kw_653, ks_15, kw_8, kw_654, by decide, by decide, by decide +kernel⟩
theorem ml_X8_182 : ch_LV RX8 182 yX3_hasQueuePlace cX3_hasQueuePlace 2 (some FieldType.boolean) 1 := ⟨kw_676, kw_677, kw_678, kw_3, kw_679, by decide, by decide, by decide +kernel⟩
theorem ml_X8_185 : ch_LV RX8 185 yX2_makeRequest cX2_makeRequest 3 none 2 := ⟨kw_684, kw_685, kw_686, kw_6, kw_687, by decide, by decide, by decide +kernel⟩
theorem ml_X8_198 : ch_LV RX8 198 yX8_expire cX8_expire 3 none 2 := ⟨kw_696, kw_698, ks_20, kw_8, kw_699, by decide, by decide, by decide +kernel⟩
theorem ml_X10_31 : ch_LV RX10 31 yX10_advance cX10_advance 1 none 0 := ⟨kw_942, kw_943, kw_944, kw_2, kw_945, by decide, by decide, by decide +kernel⟩
theorem ml_X10_37 : ch_LV RX10 37 yX10_byteAt cX10_byteAt 2 (some FieldType.int) 1 := ⟨kw_946, kw_948, ks_33, kw_2, kw_949, by decide, by decide, by decide +kernel⟩
theorem ms_X10_41 : ch_LS RX10 41 yX10_kindOf cX10_kindOf 1 (some FieldType.int) 1 := ⟨kw_950, kw_951, kw_2, kw_952, by decide, by decide, by decide +kernel⟩
theorem ms_X10_44 : ch_LS RX10 44 yJ9_min_7cf53 cJ9_min_7cf53 2 (some FieldType.int) 2 := ⟨kw_953, kw_517, kw_15, kw_518, by decide, by decide, by decide +kernel⟩
theorem ml_X10_53 : ch_LV RX10 53 yJ0_length_8abf5 cJ0_length_8abf5 1 (some FieldType.int) 0 := ⟨kw_993, kw_865, kw_866, kw_19, kw_867, by decide, by decide, by decide +kernel⟩
theorem ml_X10_59 : ch_LV RX10 59 yJ0_charAt_5068e cJ0_charAt_5068e 2 (some FieldType.char) 1 := ⟨kw_994, kw_875, kw_876, kw_19, kw_877, by decide, by decide, by decide +kernel⟩
theorem ml_X10_63 : ch_LV RX10 63 yX10_is cX10_is 3 (some FieldType.boolean) 1 := ⟨kw_1032, kw_990, kw_991, kw_2, kw_992, by decide, by decide, by decide +kernel⟩
theorem ml_X10_67 : ch_LV RX10 67 yX10_fail cX10_fail 2 none 1 := ⟨kw_1013, kw_1000, kw_1001, kw_2, kw_1002, by decide, by decide, by decide +kernel⟩
theorem ml_X10_71 : ch_LV RX10 71 yX10_seeNumber cX10_seeNumber 5 (some FieldType.int) 2 := ⟨kw_1009, kw_1010, kw_1011, kw_2, kw_1012, by decide, by decide, by decide +kernel⟩
theorem ml_L_8 : ch_LV RL 8 yX11_feed cX11_feed 6 (some FieldType.int) 5 := ⟨kw_915, kw_916, kw_917, kw_1, kw_918, by decide, by decide, by decide +kernel⟩
theorem ms_L_14 : ch_LS RL 14 yL_add cL_add 4 none 3 := ⟨kw_912, kw_913, kw_0, kw_914, by decide, by decide, by decide +kernel⟩
theorem ms_L_23 : ch_LS RL 23 yL_cell cL_cell 2 (some FieldType.int) 2 := ⟨kw_781, kw_782, kw_0, kw_783, by decide, by decide, by decide +kernel⟩
theorem ms_L_27 : ch_LS RL 27 yL_most cL_most 2 (some FieldType.int) 2 := ⟨kw_777, kw_778, kw_0, kw_779, by decide, by decide, by decide +kernel⟩
theorem ml_L_59 : ch_LV RL 59 yJ0_length_8abf5 cJ0_length_8abf5 1 (some FieldType.int) 0 := ⟨kw_864, kw_865, kw_866, kw_19, kw_867, by decide, by decide, by decide +kernel⟩
theorem ml_L_65 : ch_LV RL 65 yJ0_charAt_5068e cJ0_charAt_5068e 2 (some FieldType.char) 1 := ⟨kw_874, kw_875, kw_876, kw_19, kw_877, by decide, by decide, by decide +kernel⟩
theorem ms_L_69 : ch_LS RL 69 yL_number cL_number 4 none 3 := ⟨kw_926, kw_927, kw_0, kw_928, by decide, by decide, by decide +kernel⟩
theorem ms_L_73 : ch_LS RL 73 yL_word cL_word 4 none 3 := ⟨kw_861, kw_862, kw_0, kw_863, by decide, by decide, by decide +kernel⟩
theorem ms_L_77 : ch_LS RL 77 yL_numbers cL_numbers 7 none 3 := ⟨kw_923, kw_924, kw_0, kw_925, by decide, by decide, by decide +kernel⟩
theorem ms_L_85 : ch_LS RL 85 yL_end cL_end 3 (some FieldType.int) 2 := ⟨kw_931, kw_932, kw_0, kw_933, by decide, by decide, by decide +kernel⟩
theorem ml_L_89 : ch_LV RL 89 yX11_load cX11_load 2 (some FieldType.int) 1 := ⟨kw_934, kw_935, kw_936, kw_1, kw_937, by decide, by decide, by decide +kernel⟩
theorem ml_L_102 : ch_LV RL 102 yX11_mobileCount cX11_mobileCount 1 (some FieldType.int) 0 := ⟨kw_394, kw_395, kw_396, kw_1, kw_397, by decide, by decide, by decide +kernel⟩
theorem ml_L_108 : ch_LV RL 108 yX11_clock cX11_clock 1 (some FieldType.int) 0 := ⟨kw_398, kw_399, kw_400, kw_1, kw_401, by decide, by decide, by decide +kernel⟩
theorem ml_L_113 : ch_LV RL 113 yX11_total cX11_total 2 (some FieldType.int) 1 := ⟨kw_1196, kw_1197, kw_1198, kw_1, kw_1199, by decide, by decide, by decide +kernel⟩
theorem ml_L_124 : ch_LV RL 124 yX11_busyChannels cX11_busyChannels 2 (some FieldType.int) 1 := ⟨kw_1264, kw_1265, kw_1266, kw_1, kw_1267, by decide, by decide, by decide +kernel⟩
theorem ml_L_130 : ch_LV RL 130 yX11_queueLength cX11_queueLength 2 (some FieldType.int) 1 := ⟨kw_1259, kw_1260, kw_1261, kw_1, kw_1262, by decide, by decide, by decide +kernel⟩
theorem ml_L_133 : ch_LV RL 133 yX11_congestedTicks cX11_congestedTicks 2 (some FieldType.int) 1 := ⟨kw_1239, kw_1240, kw_1241, kw_1, kw_1242, by decide, by decide, by decide +kernel⟩
theorem ml_L_139 : ch_LV RL 139 yX11_queued cX11_queued 3 (some FieldType.int) 2 := ⟨kw_1269, kw_1270, kw_1271, kw_1, kw_1272, by decide, by decide, by decide +kernel⟩
theorem ml_L_142 : ch_LV RL 142 yX11_hysteresis cX11_hysteresis 4 (some FieldType.int) 2 := ⟨kw_1244, kw_1245, kw_1246, kw_1, kw_1247, by decide, by decide, by decide +kernel⟩
theorem ml_L_144 : ch_LV RL 144 yX11_successes cX11_successes 3 (some FieldType.int) 2 := ⟨kw_1248, kw_1249, kw_1250, kw_1, kw_1251, by decide, by decide, by decide +kernel⟩
theorem ml_L_149 : ch_LV RL 149 yX11_refusals cX11_refusals 3 (some FieldType.int) 2 := ⟨kw_1252, kw_1253, kw_1254, kw_1, kw_1255, by decide, by decide, by decide +kernel⟩
theorem ml_L_158 : ch_LV RL 158 yX11_x cX11_x 2 (some FieldType.int) 1 := ⟨kw_1200, kw_1201, kw_1202, kw_1, kw_1203, by decide, by decide, by decide +kernel⟩
theorem ml_L_165 : ch_LV RL 165 yX11_y cX11_y 2 (some FieldType.int) 1 := ⟨kw_1204, kw_1205, kw_1206, kw_1, kw_1207, by decide, by decide, by decide +kernel⟩
theorem ml_L_170 : ch_LV RL 170 yX11_state cX11_state 2 (some FieldType.int) 1 := ⟨kw_1208, kw_1209, kw_1210, kw_1, kw_1211, by decide, by decide, by decide +kernel⟩
theorem ml_L_175 : ch_LV RL 175 yX11_servingCell cX11_servingCell 2 (some FieldType.int) 1 := ⟨kw_1212, kw_1213, kw_1214, kw_1, kw_1215, by decide, by decide, by decide +kernel⟩
theorem ml_L_180 : ch_LV RL 180 yX11_remaining cX11_remaining 2 (some FieldType.int) 1 := ⟨kw_1216, kw_1217, kw_1218, kw_1, kw_1219, by decide, by decide, by decide +kernel⟩
theorem ml_L_186 : ch_LV RL 186 yX11_requestCell cX11_requestCell 2 (some FieldType.int) 1 := ⟨kw_1220, kw_1221, kw_1222, kw_1, kw_1223, by decide, by decide, by decide +kernel⟩
theorem ml_L_195 : ch_LV RL 195 yX11_reportCount cX11_reportCount 3 (some FieldType.int) 2 := ⟨kw_1229, kw_1230, kw_1231, kw_1, kw_1232, by decide, by decide, by decide +kernel⟩
theorem ml_L_198 : ch_LV RL 198 yX11_average cX11_average 3 (some FieldType.int) 2 := ⟨kw_1224, kw_1225, kw_1226, kw_1, kw_1227, by decide, by decide, by decide +kernel⟩
theorem ml_L_203 : ch_LV RL 203 yX11_isBarred cX11_isBarred 3 (some FieldType.boolean) 2 := ⟨kw_1234, kw_1235, kw_1236, kw_1, kw_1237, by decide, by decide, by decide +kernel⟩
theorem ml_L_213 : ch_LV RL 213 yX11_candidate cX11_candidate 3 (some FieldType.int) 2 := ⟨kw_1278, kw_1279, kw_1280, kw_1, kw_1281, by decide, by decide, by decide +kernel⟩
theorem ml_L_223 : ch_LV RL 223 yX11_addMobile cX11_addMobile 6 (some FieldType.int) 4 := ⟨kw_1098, kw_1099, kw_1100, kw_1, kw_1101, by decide, by decide, by decide +kernel⟩
theorem ml_L_230 : ch_LV RL 230 yX11_call cX11_call 5 (some FieldType.int) 2 := ⟨kw_1120, kw_1121, kw_1122, kw_1, kw_1123, by decide, by decide, by decide +kernel⟩
theorem ml_L_234 : ch_LV RL 234 yX11_hangUp cX11_hangUp 4 (some FieldType.int) 1 := ⟨kw_1174, kw_1175, kw_1176, kw_1, kw_1177, by decide, by decide, by decide +kernel⟩
theorem ml_L_237 : ch_LV RL 237 yX11_setVelocity cX11_setVelocity 5 (some FieldType.int) 3 := ⟨kw_1179, kw_1180, kw_1181, kw_1, kw_1182, by decide, by decide, by decide +kernel⟩
theorem ml_L_241 : ch_LV RL 241 yX11_setHysteresis cX11_setHysteresis 6 (some FieldType.int) 3 := ⟨kw_1183, kw_1184, kw_1185, kw_1, kw_1186, by decide, by decide, by decide +kernel⟩
theorem ml_L_245 : ch_LV RL 245 yX11_run cX11_run 3 (some FieldType.int) 1 := ⟨kw_402, kw_403, kw_404, kw_1, kw_405, by decide, by decide, by decide +kernel⟩
theorem ms_L_248 : ch_LS RL 248 yL_all cL_all 5 (some FieldType.int) 2 := ⟨kw_1193, kw_1194, kw_0, kw_1195, by decide, by decide, by decide +kernel⟩
theorem ml_L_252 : ch_LV RL 252 yX11_undoCount cX11_undoCount 1 (some FieldType.int) 0 := ⟨kw_700, kw_701, kw_702, kw_1, kw_703, by decide, by decide, by decide +kernel⟩
theorem ml_L_255 : ch_LV RL 255 yX11_forecastCell cX11_forecastCell 3 (some FieldType.int) 2 := ⟨kw_1293, kw_1294, kw_1295, kw_1, kw_1296, by decide, by decide, by decide +kernel⟩
theorem ml_L_258 : ch_LV RL 258 yX11_undo cX11_undo 1 (some FieldType.int) 0 := ⟨kw_704, kw_705, kw_706, kw_1, kw_707, by decide, by decide, by decide +kernel⟩
theorem ml_L_261 : ch_LV RL 261 yX11_bestHysteresis cX11_bestHysteresis 10 (some FieldType.int) 3 := ⟨kw_1300, kw_1301, kw_1302, kw_1, kw_1303, by decide, by decide, by decide +kernel⟩
theorem ms_L_265 : ch_LS RL 265 yL_drawn cL_drawn 7 (some (FieldType.object "CellHandoverLaw$Own")) 2 := ⟨kw_784, kw_785, kw_0, kw_786, by decide, by decide, by decide +kernel⟩
theorem ms_L_269 : ch_LS RL 269 yL_tell cL_tell 5 (some FieldType.int) 3 := ⟨kw_857, kw_858, kw_0, kw_859, by decide, by decide, by decide +kernel⟩
theorem ms_L_273 : ch_LS RL 273 yL_isSound cL_isSound 14 (some FieldType.boolean) 2 := ⟨kw_1256, kw_1257, kw_0, kw_1258, by decide, by decide, by decide +kernel⟩
theorem ml_L_277 : ch_LV RL 277 yX11_saveSnapshot cX11_saveSnapshot 1 none 0 := ⟨kw_712, kw_713, kw_714, kw_1, kw_715, by decide, by decide, by decide +kernel⟩
theorem ms_L_280 : ch_LS RL 280 yL_isTick cL_isTick 15 (some FieldType.boolean) 2 := ⟨kw_1286, kw_1287, kw_0, kw_1288, by decide, by decide, by decide +kernel⟩
theorem ms_L_286 : ch_LS RL 286 yL_act cL_act 11 (some FieldType.int) 3 := ⟨kw_1037, kw_1038, kw_0, kw_1039, by decide, by decide, by decide +kernel⟩
theorem ms_L_290 : ch_LS RL 290 yL_isForecast cL_isForecast 8 (some FieldType.boolean) 4 := ⟨kw_1290, kw_1291, kw_0, kw_1292, by decide, by decide, by decide +kernel⟩
theorem ms_L_294 : ch_LS RL 294 yL_isBest cL_isBest 13 (some FieldType.boolean) 5 := ⟨kw_1297, kw_1298, kw_0, kw_1299, by decide, by decide, by decide +kernel⟩
theorem ml_L_298 : ch_LV RL 298 yX11_restoreSnapshot cX11_restoreSnapshot 1 (some FieldType.boolean) 0 := ⟨kw_717, kw_718, kw_719, kw_1, kw_720, by decide, by decide, by decide +kernel⟩
theorem ms_X13_74 : ch_LS RX13 74 yJ9_abs_0f7a4 cJ9_abs_0f7a4 1 (some FieldType.int) 1 := ⟨kw_735, kw_556, kw_15, kw_557, by decide, by decide, by decide +kernel⟩
theorem ml_X13_80 : ch_LV RX13 80 yX13_level cX13_level 5 (some FieldType.int) 3 := ⟨kw_731, kw_733, ks_22, kw_18, kw_734, by decide, by decide, by decide +kernel⟩
theorem ml_X13_84 : ch_LV RX13 84 yX13_strongest cX13_strongest 5 (some FieldType.int) 2 := ⟨kw_1116, kw_1118, ks_40, kw_18, kw_1119, by decide, by decide, by decide +kernel⟩
theorem ml_X13_93 : ch_LV RX13 93 yX13_busy cX13_busy 4 (some FieldType.int) 1 := ⟨kw_749, kw_751, ks_26, kw_18, kw_752, by decide, by decide, by decide +kernel⟩
theorem ml_X13_99 : ch_LV RX13 99 yX13_waits cX13_waits 4 (some FieldType.int) 1 := ⟨kw_753, kw_755, ks_27, kw_18, kw_756, by decide, by decide, by decide +kernel⟩
theorem ml_X13_114 : ch_LV RX13 114 yX13_covers cX13_covers 4 (some FieldType.int) 2 := ⟨kw_1112, kw_1114, ks_39, kw_18, kw_1115, by decide, by decide, by decide +kernel⟩
theorem ml_X13_117 : ch_LV RX13 117 yX13_free cX13_free 2 (some FieldType.boolean) 1 := ⟨kw_745, kw_747, ks_25, kw_18, kw_748, by decide, by decide, by decide +kernel⟩
theorem ml_X13_140 : ch_LV RX13 140 yX13_ranked cX13_ranked 11 (some (FieldType.array FieldType.int)) 1 := ⟨kw_773, kw_775, ks_32, kw_18, kw_776, by decide, by decide, by decide +kernel⟩
theorem ml_X13_144 : ch_LV RX13 144 yX13_hands cX13_hands 5 none 2 := ⟨kw_761, kw_763, ks_29, kw_18, kw_764, by decide, by decide, by decide +kernel⟩
theorem ms_X13_154 : ch_LS RX13 154 yJ9_min_7cf53 cJ9_min_7cf53 2 (some FieldType.int) 2 := ⟨kw_730, kw_517, kw_15, kw_518, by decide, by decide, by decide +kernel⟩
theorem ml_X13_160 : ch_LV RX13 160 yX13_queue cX13_queue 7 (some (FieldType.array FieldType.int)) 1 := ⟨kw_757, kw_759, ks_28, kw_18, kw_760, by decide, by decide, by decide +kernel⟩
theorem ml_X13_163 : ch_LV RX13 163 yX13_considers cX13_considers 9 none 1 := ⟨kw_769, kw_771, ks_31, kw_18, kw_772, by decide, by decide, by decide +kernel⟩
theorem ml_J0_335 : ch_LV RJ0 335 yJ0_coder_7d493 cJ0_coder_7d493 1 (some FieldType.byte) 0 := ⟨kw_868, kw_869, kw_870, kw_19, kw_871, by decide, by decide, by decide +kernel⟩
theorem ml_J0_492 : ch_LV RJ0 492 yJ0_isLatin1_aae02 cJ0_isLatin1_aae02 1 (some FieldType.boolean) 0 := ⟨kw_878, kw_879, kw_880, kw_19, kw_881, by decide, by decide, by decide +kernel⟩
theorem ms_J0_495 : ch_LS RJ0 495 yJ1_charAt_3b067 cJ1_charAt_3b067 2 (some FieldType.char) 2 := ⟨kw_882, kw_883, kw_20, kw_884, by decide, by decide, by decide +kernel⟩
theorem ms_J0_498 : ch_LS RJ0 498 yJ2_charAt_3b067 cJ2_charAt_3b067 2 (some FieldType.char) 2 := ⟨kw_893, kw_894, kw_22, kw_895, by decide, by decide, by decide +kernel⟩
theorem ms_J0_1059 : ch_LS RJ0 1059 yJ3_checkIndex_8e157 cJ3_checkIndex_8e157 3 (some FieldType.int) 3 := ⟨kw_890, kw_891, kw_21, kw_892, by decide, by decide, by decide +kernel⟩
theorem ms_J1_9 : ch_LS RJ1 9 yJ0_checkIndex_df160 cJ0_checkIndex_df160 2 none 2 := ⟨kw_885, kw_886, kw_19, kw_887, by decide, by decide, by decide +kernel⟩
theorem ms_J2_48 : ch_LS RJ2 48 yJ2_length_9d52b cJ2_length_9d52b 1 (some FieldType.int) 1 := ⟨kw_899, kw_900, kw_22, kw_901, by decide, by decide, by decide +kernel⟩
theorem ms_J2_67 : ch_LS RJ2 67 yJ2_checkIndex_2214a cJ2_checkIndex_2214a 2 none 2 := ⟨kw_896, kw_897, kw_22, kw_898, by decide, by decide, by decide +kernel⟩
theorem ms_J2_71 : ch_LS RJ2 71 yJ2_getChar_3b067 cJ2_getChar_3b067 2 (some FieldType.char) 2 := ⟨kw_903, kw_904, kw_22, kw_905, by decide, by decide, by decide +kernel⟩
theorem ms_J2_414 : ch_LS RJ2 414 yJ0_checkIndex_df160 cJ0_checkIndex_df160 2 none 2 := ⟨kw_902, kw_886, kw_19, kw_887, by decide, by decide, by decide +kernel⟩
theorem ik_m1 : Int32.ofInt (-1) = (-1) := by decide
theorem ik_0 : Int32.ofInt 0 = 0 := by decide
theorem ik_1 : Int32.ofInt 1 = 1 := by decide
theorem ik_2 : Int32.ofInt 2 = 2 := by decide
theorem ik_3 : Int32.ofInt 3 = 3 := by decide
theorem ik_4 : Int32.ofInt 4 = 4 := by decide
theorem ik_5 : Int32.ofInt 5 = 5 := by decide
theorem bk_m10 : (Int8.ofInt (-10)).toInt32 = (-10) := by decide
theorem bk_m2 : (Int8.ofInt (-2)).toInt32 = (-2) := by decide
theorem bk_m3 : (Int8.ofInt (-3)).toInt32 = (-3) := by decide
theorem bk_m4 : (Int8.ofInt (-4)).toInt32 = (-4) := by decide
theorem bk_m5 : (Int8.ofInt (-5)).toInt32 = (-5) := by decide
theorem bk_m99 : (Int8.ofInt (-99)).toInt32 = (-99) := by decide
theorem bk_10 : (Int8.ofInt 10).toInt32 = 10 := by decide
theorem bk_100 : (Int8.ofInt 100).toInt32 = 100 := by decide
theorem bk_11 : (Int8.ofInt 11).toInt32 = 11 := by decide
theorem bk_12 : (Int8.ofInt 12).toInt32 = 12 := by decide
theorem bk_122 : (Int8.ofInt 122).toInt32 = 122 := by decide
theorem bk_13 : (Int8.ofInt 13).toInt32 = 13 := by decide
theorem bk_14 : (Int8.ofInt 14).toInt32 = 14 := by decide
theorem bk_16 : (Int8.ofInt 16).toInt32 = 16 := by decide
theorem bk_18 : (Int8.ofInt 18).toInt32 = 18 := by decide
theorem bk_20 : (Int8.ofInt 20).toInt32 = 20 := by decide
theorem bk_24 : (Int8.ofInt 24).toInt32 = 24 := by decide
theorem bk_30 : (Int8.ofInt 30).toInt32 = 30 := by decide
theorem bk_31 : (Int8.ofInt 31).toInt32 = 31 := by decide
theorem bk_32 : (Int8.ofInt 32).toInt32 = 32 := by decide
theorem bk_37 : (Int8.ofInt 37).toInt32 = 37 := by decide
theorem bk_38 : (Int8.ofInt 38).toInt32 = 38 := by decide
theorem bk_39 : (Int8.ofInt 39).toInt32 = 39 := by decide
theorem bk_40 : (Int8.ofInt 40).toInt32 = 40 := by decide
theorem bk_41 : (Int8.ofInt 41).toInt32 = 41 := by decide
theorem bk_48 : (Int8.ofInt 48).toInt32 = 48 := by decide
theorem bk_49 : (Int8.ofInt 49).toInt32 = 49 := by decide
theorem bk_50 : (Int8.ofInt 50).toInt32 = 50 := by decide
theorem bk_57 : (Int8.ofInt 57).toInt32 = 57 := by decide
theorem bk_59 : (Int8.ofInt 59).toInt32 = 59 := by decide
theorem bk_6 : (Int8.ofInt 6).toInt32 = 6 := by decide
theorem bk_60 : (Int8.ofInt 60).toInt32 = 60 := by decide
theorem bk_64 : (Int8.ofInt 64).toInt32 = 64 := by decide
theorem bk_7 : (Int8.ofInt 7).toInt32 = 7 := by decide
theorem bk_8 : (Int8.ofInt 8).toInt32 = 8 := by decide
theorem bk_9 : (Int8.ofInt 9).toInt32 = 9 := by decide
theorem bk_97 : (Int8.ofInt 97).toInt32 = 97 := by decide
theorem bk_99 : (Int8.ofInt 99).toInt32 = 99 := by decide
theorem sk_1000 : (Int16.ofInt 1000).toInt32 = 1000 := by decide
theorem sk_199 : (Int16.ofInt 199).toInt32 = 199 := by decide
theorem sk_255 : (Int16.ofInt 255).toInt32 = 255 := by decide
theorem sk_500 : (Int16.ofInt 500).toInt32 = 500 := by decide
theorem sk_680 : (Int16.ofInt 680).toInt32 = 680 := by decide
theorem sk_690 : (Int16.ofInt 690).toInt32 = 690 := by decide
theorem sk_700 : (Int16.ofInt 700).toInt32 = 700 := by decide
theorem sk_999 : (Int16.ofInt 999).toInt32 = 999 := by decide
