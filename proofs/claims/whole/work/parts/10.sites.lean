/-! NAMES OF OBJECTS, what they refer to; each field's row, each call site's words -/
/-- which names there are: 15 networks (0 now, 1 trial, 2 snapshot, 3 .. 14 history), the class's other objects, the reference's -/
def ch_V (k kd i : Nat) : Prop := match kd with
  | 0 => k < 15 ∧ i = 0
  | 1 => k < 15 ∧ i < 9
  | 2 => k < 15 ∧ i < 65
  | 3 => k < 15 ∧ i < 13
  | 4 => k < 15 ∧ i < 13
  | 5 => k < 15 ∧ i < 13
  | 6 => k < 15 ∧ i < 13
  | 7 => k < 15 ∧ i = 0
  | 8 => k < 15 ∧ i = 0
  | 9 => k < 15 ∧ i = 0
  | 10 => k < 15 ∧ i = 0
  | 11 => k = 15 ∧ i = 0
  | 12 => k = 15 ∧ i = 0
  | 13 => k = 15 ∧ i = 0
  | 14 => k = 15 ∧ i = 0
  | 15 => k = 15 ∧ i = 0
  | 16 => k = 15 ∧ i = 0
  | 17 => k = 15 ∧ i = 0
  | 18 => k = 15 ∧ i = 0
  | 19 => k = 15 ∧ i = 0
  | 20 => k = 15 ∧ i = 0
  | 21 => k = 15 ∧ i = 0
  | 22 => k = 16 ∧ i = 0
  | 23 => k = 16 ∧ i = 0
  | 24 => k = 16 ∧ i = 0
  | 25 => k = 16 ∧ i = 0
  | 26 => k = 16 ∧ i = 0
  | 27 => k = 16 ∧ i = 0
  | 28 => k = 16 ∧ i = 0
  | 29 => k = 16 ∧ i = 0
  | 30 => k = 16 ∧ i = 0
  | 31 => k = 16 ∧ i = 0
  | 32 => k = 16 ∧ i = 0
  | 33 => k = 16 ∧ i = 0
  | _ => False
def ch_rt (k kd i j : Nat) : Option (Nat × Nat × Nat) := match kd with
  | 0 => match j with
    | 10 => some (k, 8, 0) | 11 => some (k, 9, 0) | 12 => some (k, 10, 0) | 13 => some (k, 7, 0) | 14 => some (k, 1, 8) | 15 => some (k, 2, 64) | 16 => some (k, 3, 12) | _ => none
  | 3 => match j with
    | 10 => some (k, 4, i) | 11 => some (k, 5, i) | 12 => some (k, 6, i) | _ => none
  | 8 => if j < 8 then some (k, 1, j) else none
  | 9 => if j < 64 then some (k, 2, j) else none
  | 10 => if j < 12 then some (k, 3, j) else none
  | 11 => match j with
    | 0 => some (15, 12, 0) | 1 => some (0, 0, 0) | 2 => some (1, 0, 0) | 3 => some (2, 0, 0) | 4 => some (15, 14, 0) | 5 => some (15, 16, 0) | 6 => some (15, 20, 0) | _ => none
  | 12 => match j with
    | 3 => some (15, 13, 0) | _ => none
  | 14 => match j with
    | 2 => some (15, 15, 0) | _ => none
  | 15 => if j < 12 then some (3 + j, 0, 0) else none
  | 16 => match j with
    | 0 => some (15, 17, 0) | _ => none
  | 17 => match j with
    | 2 => some (15, 18, 0) | 3 => some (15, 19, 0) | _ => none
  | 20 => match j with
    | 0 => some (15, 21, 0) | _ => none
  | 22 => match j with
    | 0 => some (16, 23, 0) | 1 => some (16, 24, 0) | 2 => some (16, 25, 0) | 3 => some (16, 26, 0) | 4 => some (16, 27, 0) | 8 => some (16, 28, 0) | 9 => some (16, 29, 0) | 11 => some (16, 30, 0) | 21 => some (16, 31, 0) | 22 => some (16, 32, 0) | 23 => some (16, 33, 0) | _ => none
  | _ => none
/-- the reference's property names, as String constants -/
def ch_nm (j : Nat) : Nat := match j with
  | 0 => 12 | 1 => 13 | 2 => 14 | 3 => 15 | 4 => 1 | 5 => 16 | 6 => 17 | _ => 18
def ch_Std (E : ch_E) (S : ch_S) : Prop := (∀ k kd i, ch_V k kd i → S.2.1 k kd i) ∧ (∀ k kd i j a, ch_V k kd i → ch_rt k kd i j = some a → S.2.2 k kd i j = some (S.1 a.1 a.2.1 a.2.2)) ∧ ∀ j, j < 8 → S.2.2 16 31 0 j = some (E.2.2.2.1 (ch_nm j))
/-- a reader of texts: its two references -/
def ch_Rd (S : ch_S) (kd net : Nat) : Prop := S.2.1 15 kd 0 ∧ S.2.2 15 kd 0 0 = some (S.1 15 12 0) ∧ S.2.2 15 kd 0 1 = some (S.1 net 0 0)
theorem li_X0 : ∀ w ∈ u_ws RX0 TX0 9, w ∈ ch_GL := by
  intro w hw
  obtain ⟨k, hk, rfl⟩ := List.mem_map.mp hw
  have hk := List.mem_range.mp hk
  rcases (show k = 0 ∨ k = 1 ∨ k = 2 ∨ k = 3 ∨ k = 4 ∨ k = 5 ∨ k = 6 ∨ k = 7 ∨ k = 8 by omega) with rfl | rfl | rfl | rfl | rfl | rfl | rfl | rfl | rfl
  · exact kw_112
  · exact kw_114
  · exact kw_116
  · exact kw_118
  · exact kw_120
  · exact kw_122
  · exact kw_124
  · exact kw_126
  · exact kw_128
theorem li_X1 : ∀ w ∈ u_ws RX1 TX1 3, w ∈ ch_GL := by
  intro w hw
  obtain ⟨k, hk, rfl⟩ := List.mem_map.mp hw
  have hk := List.mem_range.mp hk
  rcases (show k = 0 ∨ k = 1 ∨ k = 2 by omega) with rfl | rfl | rfl
  · exact kw_333
  · exact kw_335
  · exact kw_337
theorem li_X2 : ∀ w ∈ u_ws RX2 TX2 13, w ∈ ch_GL := by
  intro w hw
  obtain ⟨k, hk, rfl⟩ := List.mem_map.mp hw
  have hk := List.mem_range.mp hk
  rcases (show k = 0 ∨ k = 1 ∨ k = 2 ∨ k = 3 ∨ k = 4 ∨ k = 5 ∨ k = 6 ∨ k = 7 ∨ k = 8 ∨ k = 9 ∨ k = 10 ∨ k = 11 ∨ k = 12 by omega) with rfl | rfl | rfl | rfl | rfl | rfl | rfl | rfl | rfl | rfl | rfl | rfl | rfl
  · exact kw_213
  · exact kw_215
  · exact kw_217
  · exact kw_219
  · exact kw_221
  · exact kw_223
  · exact kw_225
  · exact kw_227
  · exact kw_229
  · exact kw_231
  · exact kw_233
  · exact kw_235
  · exact kw_237
theorem li_X3 : ∀ w ∈ u_ws RX3 TX3 17, w ∈ ch_GL := by
  intro w hw
  obtain ⟨k, hk, rfl⟩ := List.mem_map.mp hw
  have hk := List.mem_range.mp hk
  rcases (show k = 0 ∨ k = 1 ∨ k = 2 ∨ k = 3 ∨ k = 4 ∨ k = 5 ∨ k = 6 ∨ k = 7 ∨ k = 8 ∨ k = 9 ∨ k = 10 ∨ k = 11 ∨ k = 12 ∨ k = 13 ∨ k = 14 ∨ k = 15 ∨ k = 16 by omega) with rfl | rfl | rfl | rfl | rfl | rfl | rfl | rfl | rfl | rfl | rfl | rfl | rfl | rfl | rfl | rfl | rfl
  · exact kw_285
  · exact kw_287
  · exact kw_289
  · exact kw_291
  · exact kw_293
  · exact kw_295
  · exact kw_297
  · exact kw_299
  · exact kw_301
  · exact kw_303
  · exact kw_305
  · exact kw_307
  · exact kw_309
  · exact kw_311
  · exact kw_313
  · exact kw_315
  · exact kw_317
theorem li_X4 : ∀ w ∈ u_ws RX4 TX4 2, w ∈ ch_GL := by
  intro w hw
  obtain ⟨k, hk, rfl⟩ := List.mem_map.mp hw
  have hk := List.mem_range.mp hk
  rcases (show k = 0 ∨ k = 1 by omega) with rfl | rfl
  · exact kw_607
  · exact kw_609
theorem li_X5 : ∀ w ∈ u_ws RX5 TX5 2, w ∈ ch_GL := by
  intro w hw
  obtain ⟨k, hk, rfl⟩ := List.mem_map.mp hw
  have hk := List.mem_range.mp hk
  rcases (show k = 0 ∨ k = 1 by omega) with rfl | rfl
  · exact kw_1225
  · exact kw_1227
theorem li_X6 : ∀ w ∈ u_ws RX6 TX6 4, w ∈ ch_GL := by
  intro w hw
  obtain ⟨k, hk, rfl⟩ := List.mem_map.mp hw
  have hk := List.mem_range.mp hk
  rcases (show k = 0 ∨ k = 1 ∨ k = 2 ∨ k = 3 by omega) with rfl | rfl | rfl | rfl
  · exact kw_358
  · exact kw_360
  · exact kw_362
  · exact kw_364
theorem li_X7 : ∀ w ∈ u_ws RX7 TX7 4, w ∈ ch_GL := by
  intro w hw
  obtain ⟨k, hk, rfl⟩ := List.mem_map.mp hw
  have hk := List.mem_range.mp hk
  rcases (show k = 0 ∨ k = 1 ∨ k = 2 ∨ k = 3 by omega) with rfl | rfl | rfl | rfl
  · exact kw_153
  · exact kw_155
  · exact kw_157
  · exact kw_159
theorem li_X8 : ∀ w ∈ u_ws RX8 TX8 1, w ∈ ch_GL := by
  intro w hw
  obtain ⟨k, hk, rfl⟩ := List.mem_map.mp hw
  have hk := List.mem_range.mp hk
  rcases (show k = 0 by omega) with rfl
  · exact kw_368
theorem li_X9 : ∀ w ∈ u_ws RX9 TX9 1, w ∈ ch_GL := by
  intro w hw
  obtain ⟨k, hk, rfl⟩ := List.mem_map.mp hw
  have hk := List.mem_range.mp hk
  rcases (show k = 0 by omega) with rfl
  · exact kw_378
theorem li_X10 : ∀ w ∈ u_ws RX10 TX10 8, w ∈ ch_GL := by
  intro w hw
  obtain ⟨k, hk, rfl⟩ := List.mem_map.mp hw
  have hk := List.mem_range.mp hk
  rcases (show k = 0 ∨ k = 1 ∨ k = 2 ∨ k = 3 ∨ k = 4 ∨ k = 5 ∨ k = 6 ∨ k = 7 by omega) with rfl | rfl | rfl | rfl | rfl | rfl | rfl | rfl
  · exact kw_52
  · exact kw_54
  · exact kw_56
  · exact kw_58
  · exact kw_60
  · exact kw_62
  · exact kw_64
  · exact kw_66
theorem li_X11 : ∀ w ∈ u_ws RX11 TX11 8, w ∈ ch_GL := by
  intro w hw
  obtain ⟨k, hk, rfl⟩ := List.mem_map.mp hw
  have hk := List.mem_range.mp hk
  rcases (show k = 0 ∨ k = 1 ∨ k = 2 ∨ k = 3 ∨ k = 4 ∨ k = 5 ∨ k = 6 ∨ k = 7 by omega) with rfl | rfl | rfl | rfl | rfl | rfl | rfl | rfl
  · exact kw_389
  · exact kw_391
  · exact kw_393
  · exact kw_395
  · exact kw_397
  · exact kw_399
  · exact kw_401
  · exact kw_403
theorem li_X12 : ∀ w ∈ u_ws RX12 TX12 25, w ∈ ch_GL := by
  intro w hw
  obtain ⟨k, hk, rfl⟩ := List.mem_map.mp hw
  have hk := List.mem_range.mp hk
  rcases (show k = 0 ∨ k = 1 ∨ k = 2 ∨ k = 3 ∨ k = 4 ∨ k = 5 ∨ k = 6 ∨ k = 7 ∨ k = 8 ∨ k = 9 ∨ k = 10 ∨ k = 11 ∨ k = 12 ∨ k = 13 ∨ k = 14 ∨ k = 15 ∨ k = 16 ∨ k = 17 ∨ k = 18 ∨ k = 19 ∨ k = 20 ∨ k = 21 ∨ k = 22 ∨ k = 23 ∨ k = 24 by omega) with rfl | rfl | rfl | rfl | rfl | rfl | rfl | rfl | rfl | rfl | rfl | rfl | rfl | rfl | rfl | rfl | rfl | rfl | rfl | rfl | rfl | rfl | rfl | rfl | rfl
  · exact kw_1342
  · exact kw_1344
  · exact kw_1346
  · exact kw_1348
  · exact kw_1350
  · exact kw_1352
  · exact kw_1354
  · exact kw_1356
  · exact kw_1358
  · exact kw_1360
  · exact kw_1362
  · exact kw_1364
  · exact kw_1366
  · exact kw_1368
  · exact kw_1370
  · exact kw_1372
  · exact kw_1374
  · exact kw_1376
  · exact kw_1378
  · exact kw_1380
  · exact kw_1382
  · exact kw_1384
  · exact kw_1386
  · exact kw_1388
  · exact kw_1390
theorem gr_X11_10 {X : ch_X} {E : ch_E} {cc : ByteArray} {nL : Nat} {S : ch_S} {μ : ch_M} {kc ks pc : Nat} {L : List (Nat × Value)} {st : List Value} (h : ch_H X E RX11 cc nL) {k i : Nat} {r : Option Nat} (hv : S.2.1 k 11 i) (hx : S.2.2 k 11 i 0 = r) (hd : decode cc pc = .ok (.getfield 10, 3)) (kk : ch_W X E nL S μ kc ks (pc + 3) L (va_rf r :: st)) : ch_W X E nL S μ kc ks pc L (.ref (S.1 k 11 i) :: st) :=
  ca_getr (ci := 11) (j := 0) h rfl rfl li_X11 rfl hv (by decide) rfl kw_381 hx hd kk
theorem gs_X11_10 {X : ch_X} {E : ch_E} {cc : ByteArray} {nL : Nat} {S : ch_S} {μ : ch_M} {kc ks pc : Nat} {L : List (Nat × Value)} {st : List Value} (h : ch_H X E RX11 cc nL) {k i : Nat} (hs : ch_Std E S) (hv : ch_V k 11 i) (hd : decode cc pc = .ok (.getfield 10, 3)) (kk : ch_W X E nL S μ kc ks (pc + 3) L (.ref (S.1 15 12 0) :: st)) : ch_W X E nL S μ kc ks pc L (.ref (S.1 k 11 i) :: st) :=
  gr_X11_10 h (hs.1 _ _ _ hv) (hs.2.1 k 11 i 0 _ hv rfl) hd kk
theorem gr_X11_19 {X : ch_X} {E : ch_E} {cc : ByteArray} {nL : Nat} {S : ch_S} {μ : ch_M} {kc ks pc : Nat} {L : List (Nat × Value)} {st : List Value} (h : ch_H X E RX11 cc nL) {k i : Nat} {r : Option Nat} (hv : S.2.1 k 11 i) (hx : S.2.2 k 11 i 1 = r) (hd : decode cc pc = .ok (.getfield 19, 3)) (kk : ch_W X E nL S μ kc ks (pc + 3) L (va_rf r :: st)) : ch_W X E nL S μ kc ks pc L (.ref (S.1 k 11 i) :: st) :=
  ca_getr (ci := 11) (j := 1) h rfl rfl li_X11 rfl hv (by decide) rfl kw_382 hx hd kk
theorem gs_X11_19 {X : ch_X} {E : ch_E} {cc : ByteArray} {nL : Nat} {S : ch_S} {μ : ch_M} {kc ks pc : Nat} {L : List (Nat × Value)} {st : List Value} (h : ch_H X E RX11 cc nL) {k i : Nat} (hs : ch_Std E S) (hv : ch_V k 11 i) (hd : decode cc pc = .ok (.getfield 19, 3)) (kk : ch_W X E nL S μ kc ks (pc + 3) L (.ref (S.1 0 0 0) :: st)) : ch_W X E nL S μ kc ks pc L (.ref (S.1 k 11 i) :: st) :=
  gr_X11_19 h (hs.1 _ _ _ hv) (hs.2.1 k 11 i 1 _ hv rfl) hd kk
theorem gr_X11_23 {X : ch_X} {E : ch_E} {cc : ByteArray} {nL : Nat} {S : ch_S} {μ : ch_M} {kc ks pc : Nat} {L : List (Nat × Value)} {st : List Value} (h : ch_H X E RX11 cc nL) {k i : Nat} {r : Option Nat} (hv : S.2.1 k 11 i) (hx : S.2.2 k 11 i 2 = r) (hd : decode cc pc = .ok (.getfield 23, 3)) (kk : ch_W X E nL S μ kc ks (pc + 3) L (va_rf r :: st)) : ch_W X E nL S μ kc ks pc L (.ref (S.1 k 11 i) :: st) :=
  ca_getr (ci := 11) (j := 2) h rfl rfl li_X11 rfl hv (by decide) rfl kw_383 hx hd kk
theorem gs_X11_23 {X : ch_X} {E : ch_E} {cc : ByteArray} {nL : Nat} {S : ch_S} {μ : ch_M} {kc ks pc : Nat} {L : List (Nat × Value)} {st : List Value} (h : ch_H X E RX11 cc nL) {k i : Nat} (hs : ch_Std E S) (hv : ch_V k 11 i) (hd : decode cc pc = .ok (.getfield 23, 3)) (kk : ch_W X E nL S μ kc ks (pc + 3) L (.ref (S.1 1 0 0) :: st)) : ch_W X E nL S μ kc ks pc L (.ref (S.1 k 11 i) :: st) :=
  gr_X11_23 h (hs.1 _ _ _ hv) (hs.2.1 k 11 i 2 _ hv rfl) hd kk
theorem gr_X11_26 {X : ch_X} {E : ch_E} {cc : ByteArray} {nL : Nat} {S : ch_S} {μ : ch_M} {kc ks pc : Nat} {L : List (Nat × Value)} {st : List Value} (h : ch_H X E RX11 cc nL) {k i : Nat} {r : Option Nat} (hv : S.2.1 k 11 i) (hx : S.2.2 k 11 i 3 = r) (hd : decode cc pc = .ok (.getfield 26, 3)) (kk : ch_W X E nL S μ kc ks (pc + 3) L (va_rf r :: st)) : ch_W X E nL S μ kc ks pc L (.ref (S.1 k 11 i) :: st) :=
  ca_getr (ci := 11) (j := 3) h rfl rfl li_X11 rfl hv (by decide) rfl kw_384 hx hd kk
theorem gs_X11_26 {X : ch_X} {E : ch_E} {cc : ByteArray} {nL : Nat} {S : ch_S} {μ : ch_M} {kc ks pc : Nat} {L : List (Nat × Value)} {st : List Value} (h : ch_H X E RX11 cc nL) {k i : Nat} (hs : ch_Std E S) (hv : ch_V k 11 i) (hd : decode cc pc = .ok (.getfield 26, 3)) (kk : ch_W X E nL S μ kc ks (pc + 3) L (.ref (S.1 2 0 0) :: st)) : ch_W X E nL S μ kc ks pc L (.ref (S.1 k 11 i) :: st) :=
  gr_X11_26 h (hs.1 _ _ _ hv) (hs.2.1 k 11 i 3 _ hv rfl) hd kk
theorem gr_X11_32 {X : ch_X} {E : ch_E} {cc : ByteArray} {nL : Nat} {S : ch_S} {μ : ch_M} {kc ks pc : Nat} {L : List (Nat × Value)} {st : List Value} (h : ch_H X E RX11 cc nL) {k i : Nat} {r : Option Nat} (hv : S.2.1 k 11 i) (hx : S.2.2 k 11 i 4 = r) (hd : decode cc pc = .ok (.getfield 32, 3)) (kk : ch_W X E nL S μ kc ks (pc + 3) L (va_rf r :: st)) : ch_W X E nL S μ kc ks pc L (.ref (S.1 k 11 i) :: st) :=
  ca_getr (ci := 11) (j := 4) h rfl rfl li_X11 rfl hv (by decide) rfl kw_385 hx hd kk
theorem gs_X11_32 {X : ch_X} {E : ch_E} {cc : ByteArray} {nL : Nat} {S : ch_S} {μ : ch_M} {kc ks pc : Nat} {L : List (Nat × Value)} {st : List Value} (h : ch_H X E RX11 cc nL) {k i : Nat} (hs : ch_Std E S) (hv : ch_V k 11 i) (hd : decode cc pc = .ok (.getfield 32, 3)) (kk : ch_W X E nL S μ kc ks (pc + 3) L (.ref (S.1 15 14 0) :: st)) : ch_W X E nL S μ kc ks pc L (.ref (S.1 k 11 i) :: st) :=
  gr_X11_32 h (hs.1 _ _ _ hv) (hs.2.1 k 11 i 4 _ hv rfl) hd kk
theorem gr_X11_39 {X : ch_X} {E : ch_E} {cc : ByteArray} {nL : Nat} {S : ch_S} {μ : ch_M} {kc ks pc : Nat} {L : List (Nat × Value)} {st : List Value} (h : ch_H X E RX11 cc nL) {k i : Nat} {r : Option Nat} (hv : S.2.1 k 11 i) (hx : S.2.2 k 11 i 5 = r) (hd : decode cc pc = .ok (.getfield 39, 3)) (kk : ch_W X E nL S μ kc ks (pc + 3) L (va_rf r :: st)) : ch_W X E nL S μ kc ks pc L (.ref (S.1 k 11 i) :: st) :=
  ca_getr (ci := 11) (j := 5) h rfl rfl li_X11 rfl hv (by decide) rfl kw_386 hx hd kk
theorem gs_X11_39 {X : ch_X} {E : ch_E} {cc : ByteArray} {nL : Nat} {S : ch_S} {μ : ch_M} {kc ks pc : Nat} {L : List (Nat × Value)} {st : List Value} (h : ch_H X E RX11 cc nL) {k i : Nat} (hs : ch_Std E S) (hv : ch_V k 11 i) (hd : decode cc pc = .ok (.getfield 39, 3)) (kk : ch_W X E nL S μ kc ks (pc + 3) L (.ref (S.1 15 16 0) :: st)) : ch_W X E nL S μ kc ks pc L (.ref (S.1 k 11 i) :: st) :=
  gr_X11_39 h (hs.1 _ _ _ hv) (hs.2.1 k 11 i 5 _ hv rfl) hd kk
theorem gr_X11_46 {X : ch_X} {E : ch_E} {cc : ByteArray} {nL : Nat} {S : ch_S} {μ : ch_M} {kc ks pc : Nat} {L : List (Nat × Value)} {st : List Value} (h : ch_H X E RX11 cc nL) {k i : Nat} {r : Option Nat} (hv : S.2.1 k 11 i) (hx : S.2.2 k 11 i 6 = r) (hd : decode cc pc = .ok (.getfield 46, 3)) (kk : ch_W X E nL S μ kc ks (pc + 3) L (va_rf r :: st)) : ch_W X E nL S μ kc ks pc L (.ref (S.1 k 11 i) :: st) :=
  ca_getr (ci := 11) (j := 6) h rfl rfl li_X11 rfl hv (by decide) rfl kw_387 hx hd kk
theorem gs_X11_46 {X : ch_X} {E : ch_E} {cc : ByteArray} {nL : Nat} {S : ch_S} {μ : ch_M} {kc ks pc : Nat} {L : List (Nat × Value)} {st : List Value} (h : ch_H X E RX11 cc nL) {k i : Nat} (hs : ch_Std E S) (hv : ch_V k 11 i) (hd : decode cc pc = .ok (.getfield 46, 3)) (kk : ch_W X E nL S μ kc ks (pc + 3) L (.ref (S.1 15 20 0) :: st)) : ch_W X E nL S μ kc ks pc L (.ref (S.1 k 11 i) :: st) :=
  gr_X11_46 h (hs.1 _ _ _ hv) (hs.2.1 k 11 i 6 _ hv rfl) hd kk
theorem gi_X11_50 {X : ch_X} {E : ch_E} {cc : ByteArray} {nL : Nat} {S : ch_S} {μ : ch_M} {kc ks pc : Nat} {L : List (Nat × Value)} {st : List Value} (h : ch_H X E RX11 cc nL) {k i : Nat} (hv : S.2.1 k 11 i) (hd : decode cc pc = .ok (.getfield 50, 3)) (kk : ch_W X E nL S μ kc ks (pc + 3) L (.int (μ k 11 i 7) :: st)) : ch_W X E nL S μ kc ks pc L (.ref (S.1 k 11 i) :: st) :=
  ca_geti (ci := 11) (j := 7) h rfl rfl li_X11 rfl hv (by decide) rfl kw_388 hd kk
theorem pi_X11_50 {X : ch_X} {E : ch_E} {cc : ByteArray} {nL : Nat} {S : ch_S} {μ : ch_M} {kc ks pc : Nat} {L : List (Nat × Value)} {st : List Value} (h : ch_H X E RX11 cc nL) {k i : Nat} {x : Int32} (hv : S.2.1 k 11 i) (hx : x = 0 ∨ x = 1) (hd : decode cc pc = .ok (.putfield 50, 3)) (kk : ch_W X E nL S (ch_st μ k 11 i 7 x) kc ks (pc + 3) L st) : ch_W X E nL S μ kc ks pc L (.int x :: .ref (S.1 k 11 i) :: st) :=
  ca_puti (ci := 11) (j := 7) (ty := .boolean) h rfl rfl li_X11 tyX11 tyX11_ok nmX11 rfl hv (by decide) rfl kw_388 rfl (by decide +kernel) (by rcases hx with rfl | rfl <;> decide) (by rcases hx with rfl | rfl <;> decide) (fun _ => hx) hd kk
theorem gi_X11_54 {X : ch_X} {E : ch_E} {cc : ByteArray} {nL : Nat} {S : ch_S} {μ : ch_M} {kc ks pc : Nat} {L : List (Nat × Value)} {st : List Value} (h : ch_H X E RX11 cc nL) {k i : Nat} (hv : S.2.1 k 12 i) (hd : decode cc pc = .ok (.getfield 54, 3)) (kk : ch_W X E nL S μ kc ks (pc + 3) L (.int (μ k 12 i 0) :: st)) : ch_W X E nL S μ kc ks pc L (.ref (S.1 k 12 i) :: st) :=
  ca_geti (ci := 10) (j := 0) h rfl rfl li_X10 rfl hv (by decide) rfl kw_41 hd kk
theorem pi_X11_54 {X : ch_X} {E : ch_E} {cc : ByteArray} {nL : Nat} {S : ch_S} {μ : ch_M} {kc ks pc : Nat} {L : List (Nat × Value)} {st : List Value} (h : ch_H X E RX11 cc nL) {k i : Nat} {x : Int32} (hv : S.2.1 k 12 i) (hd : decode cc pc = .ok (.putfield 54, 3)) (kk : ch_W X E nL S (ch_st μ k 12 i 0 x) kc ks (pc + 3) L st) : ch_W X E nL S μ kc ks pc L (.int x :: .ref (S.1 k 12 i) :: st) :=
  ca_puti (ci := 10) (j := 0) (ty := .int) h rfl rfl li_X10 tyX10 tyX10_ok nmX10 rfl hv (by decide) rfl kw_41 rfl (by decide +kernel) rfl rfl (fun z => absurd z (by decide)) hd kk
theorem gi_X11_80 {X : ch_X} {E : ch_E} {cc : ByteArray} {nL : Nat} {S : ch_S} {μ : ch_M} {kc ks pc : Nat} {L : List (Nat × Value)} {st : List Value} (h : ch_H X E RX11 cc nL) {k i : Nat} (hv : S.2.1 k 12 i) (hd : decode cc pc = .ok (.getfield 80, 3)) (kk : ch_W X E nL S μ kc ks (pc + 3) L (.int (μ k 12 i 1) :: st)) : ch_W X E nL S μ kc ks pc L (.ref (S.1 k 12 i) :: st) :=
  ca_geti (ci := 10) (j := 1) h rfl rfl li_X10 rfl hv (by decide) rfl kw_44 hd kk
theorem pi_X11_80 {X : ch_X} {E : ch_E} {cc : ByteArray} {nL : Nat} {S : ch_S} {μ : ch_M} {kc ks pc : Nat} {L : List (Nat × Value)} {st : List Value} (h : ch_H X E RX11 cc nL) {k i : Nat} {x : Int32} (hv : S.2.1 k 12 i) (hd : decode cc pc = .ok (.putfield 80, 3)) (kk : ch_W X E nL S (ch_st μ k 12 i 1 x) kc ks (pc + 3) L st) : ch_W X E nL S μ kc ks pc L (.int x :: .ref (S.1 k 12 i) :: st) :=
  ca_puti (ci := 10) (j := 1) (ty := .int) h rfl rfl li_X10 tyX10 tyX10_ok nmX10 rfl hv (by decide) rfl kw_44 rfl (by decide +kernel) rfl rfl (fun z => absurd z (by decide)) hd kk
theorem gi_X11_90 {X : ch_X} {E : ch_E} {cc : ByteArray} {nL : Nat} {S : ch_S} {μ : ch_M} {kc ks pc : Nat} {L : List (Nat × Value)} {st : List Value} (h : ch_H X E RX11 cc nL) {k i : Nat} (hv : S.2.1 k 0 i) (hd : decode cc pc = .ok (.getfield 90, 3)) (kk : ch_W X E nL S μ kc ks (pc + 3) L (.int (μ k 0 i 0) :: st)) : ch_W X E nL S μ kc ks pc L (.ref (S.1 k 0 i) :: st) :=
  ca_geti (ci := 3) (j := 0) h rfl rfl li_X3 rfl hv (by decide) rfl kw_246 hd kk
theorem pi_X11_90 {X : ch_X} {E : ch_E} {cc : ByteArray} {nL : Nat} {S : ch_S} {μ : ch_M} {kc ks pc : Nat} {L : List (Nat × Value)} {st : List Value} (h : ch_H X E RX11 cc nL) {k i : Nat} {x : Int32} (hv : S.2.1 k 0 i) (hd : decode cc pc = .ok (.putfield 90, 3)) (kk : ch_W X E nL S (ch_st μ k 0 i 0 x) kc ks (pc + 3) L st) : ch_W X E nL S μ kc ks pc L (.int x :: .ref (S.1 k 0 i) :: st) :=
  ca_puti (ci := 3) (j := 0) (ty := .int) h rfl rfl li_X3 tyX3 tyX3_ok nmX3 rfl hv (by decide) rfl kw_246 rfl (by decide +kernel) rfl rfl (fun z => absurd z (by decide)) hd kk
theorem gi_X11_93 {X : ch_X} {E : ch_E} {cc : ByteArray} {nL : Nat} {S : ch_S} {μ : ch_M} {kc ks pc : Nat} {L : List (Nat × Value)} {st : List Value} (h : ch_H X E RX11 cc nL) {k i : Nat} (hv : S.2.1 k 12 i) (hd : decode cc pc = .ok (.getfield 93, 3)) (kk : ch_W X E nL S μ kc ks (pc + 3) L (.int (μ k 12 i 2) :: st)) : ch_W X E nL S μ kc ks pc L (.ref (S.1 k 12 i) :: st) :=
  ca_geti (ci := 10) (j := 2) h rfl rfl li_X10 rfl hv (by decide) rfl kw_46 hd kk
theorem pi_X11_93 {X : ch_X} {E : ch_E} {cc : ByteArray} {nL : Nat} {S : ch_S} {μ : ch_M} {kc ks pc : Nat} {L : List (Nat × Value)} {st : List Value} (h : ch_H X E RX11 cc nL) {k i : Nat} {x : Int32} (hv : S.2.1 k 12 i) (hd : decode cc pc = .ok (.putfield 93, 3)) (kk : ch_W X E nL S (ch_st μ k 12 i 2 x) kc ks (pc + 3) L st) : ch_W X E nL S μ kc ks pc L (.int x :: .ref (S.1 k 12 i) :: st) :=
  ca_puti (ci := 10) (j := 2) (ty := .int) h rfl rfl li_X10 tyX10 tyX10_ok nmX10 rfl hv (by decide) rfl kw_46 rfl (by decide +kernel) rfl rfl (fun z => absurd z (by decide)) hd kk
theorem gi_X11_96 {X : ch_X} {E : ch_E} {cc : ByteArray} {nL : Nat} {S : ch_S} {μ : ch_M} {kc ks pc : Nat} {L : List (Nat × Value)} {st : List Value} (h : ch_H X E RX11 cc nL) {k i : Nat} (hv : S.2.1 k 0 i) (hd : decode cc pc = .ok (.getfield 96, 3)) (kk : ch_W X E nL S μ kc ks (pc + 3) L (.int (μ k 0 i 1) :: st)) : ch_W X E nL S μ kc ks pc L (.ref (S.1 k 0 i) :: st) :=
  ca_geti (ci := 3) (j := 1) h rfl rfl li_X3 rfl hv (by decide) rfl kw_251 hd kk
theorem pi_X11_96 {X : ch_X} {E : ch_E} {cc : ByteArray} {nL : Nat} {S : ch_S} {μ : ch_M} {kc ks pc : Nat} {L : List (Nat × Value)} {st : List Value} (h : ch_H X E RX11 cc nL) {k i : Nat} {x : Int32} (hv : S.2.1 k 0 i) (hd : decode cc pc = .ok (.putfield 96, 3)) (kk : ch_W X E nL S (ch_st μ k 0 i 1 x) kc ks (pc + 3) L st) : ch_W X E nL S μ kc ks pc L (.int x :: .ref (S.1 k 0 i) :: st) :=
  ca_puti (ci := 3) (j := 1) (ty := .int) h rfl rfl li_X3 tyX3 tyX3_ok nmX3 rfl hv (by decide) rfl kw_251 rfl (by decide +kernel) rfl rfl (fun z => absurd z (by decide)) hd kk
theorem gi_X11_99 {X : ch_X} {E : ch_E} {cc : ByteArray} {nL : Nat} {S : ch_S} {μ : ch_M} {kc ks pc : Nat} {L : List (Nat × Value)} {st : List Value} (h : ch_H X E RX11 cc nL) {k i : Nat} (hv : S.2.1 k 0 i) (hd : decode cc pc = .ok (.getfield 99, 3)) (kk : ch_W X E nL S μ kc ks (pc + 3) L (.int (μ k 0 i 2) :: st)) : ch_W X E nL S μ kc ks pc L (.ref (S.1 k 0 i) :: st) :=
  ca_geti (ci := 3) (j := 2) h rfl rfl li_X3 rfl hv (by decide) rfl kw_255 hd kk
theorem pi_X11_99 {X : ch_X} {E : ch_E} {cc : ByteArray} {nL : Nat} {S : ch_S} {μ : ch_M} {kc ks pc : Nat} {L : List (Nat × Value)} {st : List Value} (h : ch_H X E RX11 cc nL) {k i : Nat} {x : Int32} (hv : S.2.1 k 0 i) (hd : decode cc pc = .ok (.putfield 99, 3)) (kk : ch_W X E nL S (ch_st μ k 0 i 2 x) kc ks (pc + 3) L st) : ch_W X E nL S μ kc ks pc L (.int x :: .ref (S.1 k 0 i) :: st) :=
  ca_puti (ci := 3) (j := 2) (ty := .int) h rfl rfl li_X3 tyX3 tyX3_ok nmX3 rfl hv (by decide) rfl kw_255 rfl (by decide +kernel) rfl rfl (fun z => absurd z (by decide)) hd kk
theorem gi_X11_102 {X : ch_X} {E : ch_E} {cc : ByteArray} {nL : Nat} {S : ch_S} {μ : ch_M} {kc ks pc : Nat} {L : List (Nat × Value)} {st : List Value} (h : ch_H X E RX11 cc nL) {k i : Nat} (hv : S.2.1 k 0 i) (hd : decode cc pc = .ok (.getfield 102, 3)) (kk : ch_W X E nL S μ kc ks (pc + 3) L (.int (μ k 0 i 3) :: st)) : ch_W X E nL S μ kc ks pc L (.ref (S.1 k 0 i) :: st) :=
  ca_geti (ci := 3) (j := 3) h rfl rfl li_X3 rfl hv (by decide) rfl kw_259 hd kk
theorem pi_X11_102 {X : ch_X} {E : ch_E} {cc : ByteArray} {nL : Nat} {S : ch_S} {μ : ch_M} {kc ks pc : Nat} {L : List (Nat × Value)} {st : List Value} (h : ch_H X E RX11 cc nL) {k i : Nat} {x : Int32} (hv : S.2.1 k 0 i) (hd : decode cc pc = .ok (.putfield 102, 3)) (kk : ch_W X E nL S (ch_st μ k 0 i 3 x) kc ks (pc + 3) L st) : ch_W X E nL S μ kc ks pc L (.int x :: .ref (S.1 k 0 i) :: st) :=
  ca_puti (ci := 3) (j := 3) (ty := .int) h rfl rfl li_X3 tyX3 tyX3_ok nmX3 rfl hv (by decide) rfl kw_259 rfl (by decide +kernel) rfl rfl (fun z => absurd z (by decide)) hd kk
theorem gi_X11_112 {X : ch_X} {E : ch_E} {cc : ByteArray} {nL : Nat} {S : ch_S} {μ : ch_M} {kc ks pc : Nat} {L : List (Nat × Value)} {st : List Value} (h : ch_H X E RX11 cc nL) {k i : Nat} (hv : S.2.1 k 2 i) (hd : decode cc pc = .ok (.getfield 112, 3)) (kk : ch_W X E nL S μ kc ks (pc + 3) L (.int (μ k 2 i 0) :: st)) : ch_W X E nL S μ kc ks pc L (.ref (S.1 k 2 i) :: st) :=
  ca_geti (ci := 7) (j := 0) h rfl rfl li_X7 rfl hv (by decide) rfl kw_141 hd kk
theorem pi_X11_112 {X : ch_X} {E : ch_E} {cc : ByteArray} {nL : Nat} {S : ch_S} {μ : ch_M} {kc ks pc : Nat} {L : List (Nat × Value)} {st : List Value} (h : ch_H X E RX11 cc nL) {k i : Nat} {x : Int32} (hv : S.2.1 k 2 i) (hx : x = 0 ∨ x = 1) (hd : decode cc pc = .ok (.putfield 112, 3)) (kk : ch_W X E nL S (ch_st μ k 2 i 0 x) kc ks (pc + 3) L st) : ch_W X E nL S μ kc ks pc L (.int x :: .ref (S.1 k 2 i) :: st) :=
  ca_puti (ci := 7) (j := 0) (ty := .boolean) h rfl rfl li_X7 tyX7 tyX7_ok nmX7 rfl hv (by decide) rfl kw_141 rfl (by decide +kernel) (by rcases hx with rfl | rfl <;> decide) (by rcases hx with rfl | rfl <;> decide) (fun _ => hx) hd kk
theorem gi_X11_117 {X : ch_X} {E : ch_E} {cc : ByteArray} {nL : Nat} {S : ch_S} {μ : ch_M} {kc ks pc : Nat} {L : List (Nat × Value)} {st : List Value} (h : ch_H X E RX11 cc nL) {k i : Nat} (hv : S.2.1 k 2 i) (hd : decode cc pc = .ok (.getfield 117, 3)) (kk : ch_W X E nL S μ kc ks (pc + 3) L (.int (μ k 2 i 1) :: st)) : ch_W X E nL S μ kc ks pc L (.ref (S.1 k 2 i) :: st) :=
  ca_geti (ci := 7) (j := 1) h rfl rfl li_X7 rfl hv (by decide) rfl kw_146 hd kk
theorem pi_X11_117 {X : ch_X} {E : ch_E} {cc : ByteArray} {nL : Nat} {S : ch_S} {μ : ch_M} {kc ks pc : Nat} {L : List (Nat × Value)} {st : List Value} (h : ch_H X E RX11 cc nL) {k i : Nat} {x : Int32} (hv : S.2.1 k 2 i) (hd : decode cc pc = .ok (.putfield 117, 3)) (kk : ch_W X E nL S (ch_st μ k 2 i 1 x) kc ks (pc + 3) L st) : ch_W X E nL S μ kc ks pc L (.int x :: .ref (S.1 k 2 i) :: st) :=
  ca_puti (ci := 7) (j := 1) (ty := .int) h rfl rfl li_X7 tyX7 tyX7_ok nmX7 rfl hv (by decide) rfl kw_146 rfl (by decide +kernel) rfl rfl (fun z => absurd z (by decide)) hd kk
theorem gi_X11_156 {X : ch_X} {E : ch_E} {cc : ByteArray} {nL : Nat} {S : ch_S} {μ : ch_M} {kc ks pc : Nat} {L : List (Nat × Value)} {st : List Value} (h : ch_H X E RX11 cc nL) {k i : Nat} (hv : S.2.1 k 3 i) (hd : decode cc pc = .ok (.getfield 156, 3)) (kk : ch_W X E nL S μ kc ks (pc + 3) L (.int (μ k 3 i 2) :: st)) : ch_W X E nL S μ kc ks pc L (.ref (S.1 k 3 i) :: st) :=
  ca_geti (ci := 2) (j := 2) h rfl rfl li_X2 rfl hv (by decide) rfl kw_179 hd kk
theorem pi_X11_156 {X : ch_X} {E : ch_E} {cc : ByteArray} {nL : Nat} {S : ch_S} {μ : ch_M} {kc ks pc : Nat} {L : List (Nat × Value)} {st : List Value} (h : ch_H X E RX11 cc nL) {k i : Nat} {x : Int32} (hv : S.2.1 k 3 i) (hd : decode cc pc = .ok (.putfield 156, 3)) (kk : ch_W X E nL S (ch_st μ k 3 i 2 x) kc ks (pc + 3) L st) : ch_W X E nL S μ kc ks pc L (.int x :: .ref (S.1 k 3 i) :: st) :=
  ca_puti (ci := 2) (j := 2) (ty := .int) h rfl rfl li_X2 tyX2 tyX2_ok nmX2 rfl hv (by decide) rfl kw_179 rfl (by decide +kernel) rfl rfl (fun z => absurd z (by decide)) hd kk
theorem gi_X11_159 {X : ch_X} {E : ch_E} {cc : ByteArray} {nL : Nat} {S : ch_S} {μ : ch_M} {kc ks pc : Nat} {L : List (Nat × Value)} {st : List Value} (h : ch_H X E RX11 cc nL) {k i : Nat} (hv : S.2.1 k 3 i) (hd : decode cc pc = .ok (.getfield 159, 3)) (kk : ch_W X E nL S μ kc ks (pc + 3) L (.int (μ k 3 i 3) :: st)) : ch_W X E nL S μ kc ks pc L (.ref (S.1 k 3 i) :: st) :=
  ca_geti (ci := 2) (j := 3) h rfl rfl li_X2 rfl hv (by decide) rfl kw_182 hd kk
theorem pi_X11_159 {X : ch_X} {E : ch_E} {cc : ByteArray} {nL : Nat} {S : ch_S} {μ : ch_M} {kc ks pc : Nat} {L : List (Nat × Value)} {st : List Value} (h : ch_H X E RX11 cc nL) {k i : Nat} {x : Int32} (hv : S.2.1 k 3 i) (hd : decode cc pc = .ok (.putfield 159, 3)) (kk : ch_W X E nL S (ch_st μ k 3 i 3 x) kc ks (pc + 3) L st) : ch_W X E nL S μ kc ks pc L (.int x :: .ref (S.1 k 3 i) :: st) :=
  ca_puti (ci := 2) (j := 3) (ty := .int) h rfl rfl li_X2 tyX2 tyX2_ok nmX2 rfl hv (by decide) rfl kw_182 rfl (by decide +kernel) rfl rfl (fun z => absurd z (by decide)) hd kk
theorem gi_X11_162 {X : ch_X} {E : ch_E} {cc : ByteArray} {nL : Nat} {S : ch_S} {μ : ch_M} {kc ks pc : Nat} {L : List (Nat × Value)} {st : List Value} (h : ch_H X E RX11 cc nL) {k i : Nat} (hv : S.2.1 k 3 i) (hd : decode cc pc = .ok (.getfield 162, 3)) (kk : ch_W X E nL S μ kc ks (pc + 3) L (.int (μ k 3 i 4) :: st)) : ch_W X E nL S μ kc ks pc L (.ref (S.1 k 3 i) :: st) :=
  ca_geti (ci := 2) (j := 4) h rfl rfl li_X2 rfl hv (by decide) rfl kw_187 hd kk
theorem pi_X11_162 {X : ch_X} {E : ch_E} {cc : ByteArray} {nL : Nat} {S : ch_S} {μ : ch_M} {kc ks pc : Nat} {L : List (Nat × Value)} {st : List Value} (h : ch_H X E RX11 cc nL) {k i : Nat} {x : Int32} (hv : S.2.1 k 3 i) (hd : decode cc pc = .ok (.putfield 162, 3)) (kk : ch_W X E nL S (ch_st μ k 3 i 4 x) kc ks (pc + 3) L st) : ch_W X E nL S μ kc ks pc L (.int x :: .ref (S.1 k 3 i) :: st) :=
  ca_puti (ci := 2) (j := 4) (ty := .int) h rfl rfl li_X2 tyX2 tyX2_ok nmX2 rfl hv (by decide) rfl kw_187 rfl (by decide +kernel) rfl rfl (fun z => absurd z (by decide)) hd kk
theorem gi_X11_165 {X : ch_X} {E : ch_E} {cc : ByteArray} {nL : Nat} {S : ch_S} {μ : ch_M} {kc ks pc : Nat} {L : List (Nat × Value)} {st : List Value} (h : ch_H X E RX11 cc nL) {k i : Nat} (hv : S.2.1 k 3 i) (hd : decode cc pc = .ok (.getfield 165, 3)) (kk : ch_W X E nL S μ kc ks (pc + 3) L (.int (μ k 3 i 0) :: st)) : ch_W X E nL S μ kc ks pc L (.ref (S.1 k 3 i) :: st) :=
  ca_geti (ci := 2) (j := 0) h rfl rfl li_X2 rfl hv (by decide) rfl kw_170 hd kk
theorem pi_X11_165 {X : ch_X} {E : ch_E} {cc : ByteArray} {nL : Nat} {S : ch_S} {μ : ch_M} {kc ks pc : Nat} {L : List (Nat × Value)} {st : List Value} (h : ch_H X E RX11 cc nL) {k i : Nat} {x : Int32} (hv : S.2.1 k 3 i) (hd : decode cc pc = .ok (.putfield 165, 3)) (kk : ch_W X E nL S (ch_st μ k 3 i 0 x) kc ks (pc + 3) L st) : ch_W X E nL S μ kc ks pc L (.int x :: .ref (S.1 k 3 i) :: st) :=
  ca_puti (ci := 2) (j := 0) (ty := .int) h rfl rfl li_X2 tyX2 tyX2_ok nmX2 rfl hv (by decide) rfl kw_170 rfl (by decide +kernel) rfl rfl (fun z => absurd z (by decide)) hd kk
theorem gi_X11_168 {X : ch_X} {E : ch_E} {cc : ByteArray} {nL : Nat} {S : ch_S} {μ : ch_M} {kc ks pc : Nat} {L : List (Nat × Value)} {st : List Value} (h : ch_H X E RX11 cc nL) {k i : Nat} (hv : S.2.1 k 3 i) (hd : decode cc pc = .ok (.getfield 168, 3)) (kk : ch_W X E nL S μ kc ks (pc + 3) L (.int (μ k 3 i 1) :: st)) : ch_W X E nL S μ kc ks pc L (.ref (S.1 k 3 i) :: st) :=
  ca_geti (ci := 2) (j := 1) h rfl rfl li_X2 rfl hv (by decide) rfl kw_175 hd kk
theorem pi_X11_168 {X : ch_X} {E : ch_E} {cc : ByteArray} {nL : Nat} {S : ch_S} {μ : ch_M} {kc ks pc : Nat} {L : List (Nat × Value)} {st : List Value} (h : ch_H X E RX11 cc nL) {k i : Nat} {x : Int32} (hv : S.2.1 k 3 i) (hd : decode cc pc = .ok (.putfield 168, 3)) (kk : ch_W X E nL S (ch_st μ k 3 i 1 x) kc ks (pc + 3) L st) : ch_W X E nL S μ kc ks pc L (.int x :: .ref (S.1 k 3 i) :: st) :=
  ca_puti (ci := 2) (j := 1) (ty := .int) h rfl rfl li_X2 tyX2 tyX2_ok nmX2 rfl hv (by decide) rfl kw_175 rfl (by decide +kernel) rfl rfl (fun z => absurd z (by decide)) hd kk
theorem gi_X11_190 {X : ch_X} {E : ch_E} {cc : ByteArray} {nL : Nat} {S : ch_S} {μ : ch_M} {kc ks pc : Nat} {L : List (Nat × Value)} {st : List Value} (h : ch_H X E RX11 cc nL) {k i : Nat} (hv : S.2.1 k 3 i) (hd : decode cc pc = .ok (.getfield 190, 3)) (kk : ch_W X E nL S μ kc ks (pc + 3) L (.int (μ k 3 i 5) :: st)) : ch_W X E nL S μ kc ks pc L (.ref (S.1 k 3 i) :: st) :=
  ca_geti (ci := 2) (j := 5) h rfl rfl li_X2 rfl hv (by decide) rfl kw_193 hd kk
theorem pi_X11_190 {X : ch_X} {E : ch_E} {cc : ByteArray} {nL : Nat} {S : ch_S} {μ : ch_M} {kc ks pc : Nat} {L : List (Nat × Value)} {st : List Value} (h : ch_H X E RX11 cc nL) {k i : Nat} {x : Int32} (hv : S.2.1 k 3 i) (hd : decode cc pc = .ok (.putfield 190, 3)) (kk : ch_W X E nL S (ch_st μ k 3 i 5 x) kc ks (pc + 3) L st) : ch_W X E nL S μ kc ks pc L (.int x :: .ref (S.1 k 3 i) :: st) :=
  ca_puti (ci := 2) (j := 5) (ty := .int) h rfl rfl li_X2 tyX2 tyX2_ok nmX2 rfl hv (by decide) rfl kw_193 rfl (by decide +kernel) rfl rfl (fun z => absurd z (by decide)) hd kk
theorem gi_X11_193 {X : ch_X} {E : ch_E} {cc : ByteArray} {nL : Nat} {S : ch_S} {μ : ch_M} {kc ks pc : Nat} {L : List (Nat × Value)} {st : List Value} (h : ch_H X E RX11 cc nL) {k i : Nat} (hv : S.2.1 k 3 i) (hd : decode cc pc = .ok (.getfield 193, 3)) (kk : ch_W X E nL S μ kc ks (pc + 3) L (.int (μ k 3 i 6) :: st)) : ch_W X E nL S μ kc ks pc L (.ref (S.1 k 3 i) :: st) :=
  ca_geti (ci := 2) (j := 6) h rfl rfl li_X2 rfl hv (by decide) rfl kw_198 hd kk
theorem pi_X11_193 {X : ch_X} {E : ch_E} {cc : ByteArray} {nL : Nat} {S : ch_S} {μ : ch_M} {kc ks pc : Nat} {L : List (Nat × Value)} {st : List Value} (h : ch_H X E RX11 cc nL) {k i : Nat} {x : Int32} (hv : S.2.1 k 3 i) (hd : decode cc pc = .ok (.putfield 193, 3)) (kk : ch_W X E nL S (ch_st μ k 3 i 6 x) kc ks (pc + 3) L st) : ch_W X E nL S μ kc ks pc L (.int x :: .ref (S.1 k 3 i) :: st) :=
  ca_puti (ci := 2) (j := 6) (ty := .int) h rfl rfl li_X2 tyX2 tyX2_ok nmX2 rfl hv (by decide) rfl kw_198 rfl (by decide +kernel) rfl rfl (fun z => absurd z (by decide)) hd kk
theorem gi_X11_196 {X : ch_X} {E : ch_E} {cc : ByteArray} {nL : Nat} {S : ch_S} {μ : ch_M} {kc ks pc : Nat} {L : List (Nat × Value)} {st : List Value} (h : ch_H X E RX11 cc nL) {k i : Nat} (hv : S.2.1 k 3 i) (hd : decode cc pc = .ok (.getfield 196, 3)) (kk : ch_W X E nL S μ kc ks (pc + 3) L (.int (μ k 3 i 8) :: st)) : ch_W X E nL S μ kc ks pc L (.ref (S.1 k 3 i) :: st) :=
  ca_geti (ci := 2) (j := 8) h rfl rfl li_X2 rfl hv (by decide) rfl kw_206 hd kk
theorem pi_X11_196 {X : ch_X} {E : ch_E} {cc : ByteArray} {nL : Nat} {S : ch_S} {μ : ch_M} {kc ks pc : Nat} {L : List (Nat × Value)} {st : List Value} (h : ch_H X E RX11 cc nL) {k i : Nat} {x : Int32} (hv : S.2.1 k 3 i) (hd : decode cc pc = .ok (.putfield 196, 3)) (kk : ch_W X E nL S (ch_st μ k 3 i 8 x) kc ks (pc + 3) L st) : ch_W X E nL S μ kc ks pc L (.int x :: .ref (S.1 k 3 i) :: st) :=
  ca_puti (ci := 2) (j := 8) (ty := .int) h rfl rfl li_X2 tyX2 tyX2_ok nmX2 rfl hv (by decide) rfl kw_206 rfl (by decide +kernel) rfl rfl (fun z => absurd z (by decide)) hd kk
theorem gi_X11_225 {X : ch_X} {E : ch_E} {cc : ByteArray} {nL : Nat} {S : ch_S} {μ : ch_M} {kc ks pc : Nat} {L : List (Nat × Value)} {st : List Value} (h : ch_H X E RX11 cc nL) {k i : Nat} (hv : S.2.1 k 2 i) (hd : decode cc pc = .ok (.getfield 225, 3)) (kk : ch_W X E nL S μ kc ks (pc + 3) L (.int (μ k 2 i 2) :: st)) : ch_W X E nL S μ kc ks pc L (.ref (S.1 k 2 i) :: st) :=
  ca_geti (ci := 7) (j := 2) h rfl rfl li_X7 rfl hv (by decide) rfl kw_149 hd kk
theorem pi_X11_225 {X : ch_X} {E : ch_E} {cc : ByteArray} {nL : Nat} {S : ch_S} {μ : ch_M} {kc ks pc : Nat} {L : List (Nat × Value)} {st : List Value} (h : ch_H X E RX11 cc nL) {k i : Nat} {x : Int32} (hv : S.2.1 k 2 i) (hd : decode cc pc = .ok (.putfield 225, 3)) (kk : ch_W X E nL S (ch_st μ k 2 i 2 x) kc ks (pc + 3) L st) : ch_W X E nL S μ kc ks pc L (.int x :: .ref (S.1 k 2 i) :: st) :=
  ca_puti (ci := 7) (j := 2) (ty := .int) h rfl rfl li_X7 tyX7 tyX7_ok nmX7 rfl hv (by decide) rfl kw_149 rfl (by decide +kernel) rfl rfl (fun z => absurd z (by decide)) hd kk
theorem gi_X11_228 {X : ch_X} {E : ch_E} {cc : ByteArray} {nL : Nat} {S : ch_S} {μ : ch_M} {kc ks pc : Nat} {L : List (Nat × Value)} {st : List Value} (h : ch_H X E RX11 cc nL) {k i : Nat} (hv : S.2.1 k 2 i) (hd : decode cc pc = .ok (.getfield 228, 3)) (kk : ch_W X E nL S μ kc ks (pc + 3) L (.int (μ k 2 i 3) :: st)) : ch_W X E nL S μ kc ks pc L (.ref (S.1 k 2 i) :: st) :=
  ca_geti (ci := 7) (j := 3) h rfl rfl li_X7 rfl hv (by decide) rfl kw_152 hd kk
theorem pi_X11_228 {X : ch_X} {E : ch_E} {cc : ByteArray} {nL : Nat} {S : ch_S} {μ : ch_M} {kc ks pc : Nat} {L : List (Nat × Value)} {st : List Value} (h : ch_H X E RX11 cc nL) {k i : Nat} {x : Int32} (hv : S.2.1 k 2 i) (hd : decode cc pc = .ok (.putfield 228, 3)) (kk : ch_W X E nL S (ch_st μ k 2 i 3 x) kc ks (pc + 3) L st) : ch_W X E nL S μ kc ks pc L (.int x :: .ref (S.1 k 2 i) :: st) :=
  ca_puti (ci := 7) (j := 3) (ty := .int) h rfl rfl li_X7 tyX7 tyX7_ok nmX7 rfl hv (by decide) rfl kw_152 rfl (by decide +kernel) rfl rfl (fun z => absurd z (by decide)) hd kk
theorem gi_X11_231 {X : ch_X} {E : ch_E} {cc : ByteArray} {nL : Nat} {S : ch_S} {μ : ch_M} {kc ks pc : Nat} {L : List (Nat × Value)} {st : List Value} (h : ch_H X E RX11 cc nL) {k i : Nat} (hv : S.2.1 k 1 i) (hd : decode cc pc = .ok (.getfield 231, 3)) (kk : ch_W X E nL S μ kc ks (pc + 3) L (.int (μ k 1 i 8) :: st)) : ch_W X E nL S μ kc ks pc L (.ref (S.1 k 1 i) :: st) :=
  ca_geti (ci := 0) (j := 8) h rfl rfl li_X0 rfl hv (by decide) rfl kw_111 hd kk
theorem pi_X11_231 {X : ch_X} {E : ch_E} {cc : ByteArray} {nL : Nat} {S : ch_S} {μ : ch_M} {kc ks pc : Nat} {L : List (Nat × Value)} {st : List Value} (h : ch_H X E RX11 cc nL) {k i : Nat} {x : Int32} (hv : S.2.1 k 1 i) (hd : decode cc pc = .ok (.putfield 231, 3)) (kk : ch_W X E nL S (ch_st μ k 1 i 8 x) kc ks (pc + 3) L st) : ch_W X E nL S μ kc ks pc L (.int x :: .ref (S.1 k 1 i) :: st) :=
  ca_puti (ci := 0) (j := 8) (ty := .int) h rfl rfl li_X0 tyX0 tyX0_ok nmX0 rfl hv (by decide) rfl kw_111 rfl (by decide +kernel) rfl rfl (fun z => absurd z (by decide)) hd kk
theorem gi_X11_234 {X : ch_X} {E : ch_E} {cc : ByteArray} {nL : Nat} {S : ch_S} {μ : ch_M} {kc ks pc : Nat} {L : List (Nat × Value)} {st : List Value} (h : ch_H X E RX11 cc nL) {k i : Nat} (hv : S.2.1 k 14 i) (hd : decode cc pc = .ok (.getfield 234, 3)) (kk : ch_W X E nL S μ kc ks (pc + 3) L (.int (μ k 14 i 0) :: st)) : ch_W X E nL S μ kc ks pc L (.ref (S.1 k 14 i) :: st) :=
  ca_geti (ci := 1) (j := 0) h rfl rfl li_X1 rfl hv (by decide) rfl kw_330 hd kk
theorem pi_X11_234 {X : ch_X} {E : ch_E} {cc : ByteArray} {nL : Nat} {S : ch_S} {μ : ch_M} {kc ks pc : Nat} {L : List (Nat × Value)} {st : List Value} (h : ch_H X E RX11 cc nL) {k i : Nat} {x : Int32} (hv : S.2.1 k 14 i) (hd : decode cc pc = .ok (.putfield 234, 3)) (kk : ch_W X E nL S (ch_st μ k 14 i 0 x) kc ks (pc + 3) L st) : ch_W X E nL S μ kc ks pc L (.int x :: .ref (S.1 k 14 i) :: st) :=
  ca_puti (ci := 1) (j := 0) (ty := .int) h rfl rfl li_X1 tyX1 tyX1_ok nmX1 rfl hv (by decide) rfl kw_330 rfl (by decide +kernel) rfl rfl (fun z => absurd z (by decide)) hd kk
theorem gi_X0_7 {X : ch_X} {E : ch_E} {cc : ByteArray} {nL : Nat} {S : ch_S} {μ : ch_M} {kc ks pc : Nat} {L : List (Nat × Value)} {st : List Value} (h : ch_H X E RX0 cc nL) {k i : Nat} (hv : S.2.1 k 1 i) (hd : decode cc pc = .ok (.getfield 7, 3)) (kk : ch_W X E nL S μ kc ks (pc + 3) L (.int (μ k 1 i 0) :: st)) : ch_W X E nL S μ kc ks pc L (.ref (S.1 k 1 i) :: st) :=
  ca_geti (ci := 0) (j := 0) h rfl rfl li_X0 rfl hv (by decide) rfl kw_87 hd kk
theorem pi_X0_7 {X : ch_X} {E : ch_E} {cc : ByteArray} {nL : Nat} {S : ch_S} {μ : ch_M} {kc ks pc : Nat} {L : List (Nat × Value)} {st : List Value} (h : ch_H X E RX0 cc nL) {k i : Nat} {x : Int32} (hv : S.2.1 k 1 i) (hd : decode cc pc = .ok (.putfield 7, 3)) (kk : ch_W X E nL S (ch_st μ k 1 i 0 x) kc ks (pc + 3) L st) : ch_W X E nL S μ kc ks pc L (.int x :: .ref (S.1 k 1 i) :: st) :=
  ca_puti (ci := 0) (j := 0) (ty := .int) h rfl rfl li_X0 tyX0 tyX0_ok nmX0 rfl hv (by decide) rfl kw_87 rfl (by decide +kernel) rfl rfl (fun z => absurd z (by decide)) hd kk
theorem gi_X0_19 {X : ch_X} {E : ch_E} {cc : ByteArray} {nL : Nat} {S : ch_S} {μ : ch_M} {kc ks pc : Nat} {L : List (Nat × Value)} {st : List Value} (h : ch_H X E RX0 cc nL) {k i : Nat} (hv : S.2.1 k 1 i) (hd : decode cc pc = .ok (.getfield 19, 3)) (kk : ch_W X E nL S μ kc ks (pc + 3) L (.int (μ k 1 i 1) :: st)) : ch_W X E nL S μ kc ks pc L (.ref (S.1 k 1 i) :: st) :=
  ca_geti (ci := 0) (j := 1) h rfl rfl li_X0 rfl hv (by decide) rfl kw_89 hd kk
theorem pi_X0_19 {X : ch_X} {E : ch_E} {cc : ByteArray} {nL : Nat} {S : ch_S} {μ : ch_M} {kc ks pc : Nat} {L : List (Nat × Value)} {st : List Value} (h : ch_H X E RX0 cc nL) {k i : Nat} {x : Int32} (hv : S.2.1 k 1 i) (hd : decode cc pc = .ok (.putfield 19, 3)) (kk : ch_W X E nL S (ch_st μ k 1 i 1 x) kc ks (pc + 3) L st) : ch_W X E nL S μ kc ks pc L (.int x :: .ref (S.1 k 1 i) :: st) :=
  ca_puti (ci := 0) (j := 1) (ty := .int) h rfl rfl li_X0 tyX0 tyX0_ok nmX0 rfl hv (by decide) rfl kw_89 rfl (by decide +kernel) rfl rfl (fun z => absurd z (by decide)) hd kk
theorem gi_X0_22 {X : ch_X} {E : ch_E} {cc : ByteArray} {nL : Nat} {S : ch_S} {μ : ch_M} {kc ks pc : Nat} {L : List (Nat × Value)} {st : List Value} (h : ch_H X E RX0 cc nL) {k i : Nat} (hv : S.2.1 k 1 i) (hd : decode cc pc = .ok (.getfield 22, 3)) (kk : ch_W X E nL S μ kc ks (pc + 3) L (.int (μ k 1 i 2) :: st)) : ch_W X E nL S μ kc ks pc L (.ref (S.1 k 1 i) :: st) :=
  ca_geti (ci := 0) (j := 2) h rfl rfl li_X0 rfl hv (by decide) rfl kw_91 hd kk
theorem pi_X0_22 {X : ch_X} {E : ch_E} {cc : ByteArray} {nL : Nat} {S : ch_S} {μ : ch_M} {kc ks pc : Nat} {L : List (Nat × Value)} {st : List Value} (h : ch_H X E RX0 cc nL) {k i : Nat} {x : Int32} (hv : S.2.1 k 1 i) (hd : decode cc pc = .ok (.putfield 22, 3)) (kk : ch_W X E nL S (ch_st μ k 1 i 2 x) kc ks (pc + 3) L st) : ch_W X E nL S μ kc ks pc L (.int x :: .ref (S.1 k 1 i) :: st) :=
  ca_puti (ci := 0) (j := 2) (ty := .int) h rfl rfl li_X0 tyX0 tyX0_ok nmX0 rfl hv (by decide) rfl kw_91 rfl (by decide +kernel) rfl rfl (fun z => absurd z (by decide)) hd kk
theorem gi_X0_25 {X : ch_X} {E : ch_E} {cc : ByteArray} {nL : Nat} {S : ch_S} {μ : ch_M} {kc ks pc : Nat} {L : List (Nat × Value)} {st : List Value} (h : ch_H X E RX0 cc nL) {k i : Nat} (hv : S.2.1 k 1 i) (hd : decode cc pc = .ok (.getfield 25, 3)) (kk : ch_W X E nL S μ kc ks (pc + 3) L (.int (μ k 1 i 3) :: st)) : ch_W X E nL S μ kc ks pc L (.ref (S.1 k 1 i) :: st) :=
  ca_geti (ci := 0) (j := 3) h rfl rfl li_X0 rfl hv (by decide) rfl kw_93 hd kk
theorem pi_X0_25 {X : ch_X} {E : ch_E} {cc : ByteArray} {nL : Nat} {S : ch_S} {μ : ch_M} {kc ks pc : Nat} {L : List (Nat × Value)} {st : List Value} (h : ch_H X E RX0 cc nL) {k i : Nat} {x : Int32} (hv : S.2.1 k 1 i) (hd : decode cc pc = .ok (.putfield 25, 3)) (kk : ch_W X E nL S (ch_st μ k 1 i 3 x) kc ks (pc + 3) L st) : ch_W X E nL S μ kc ks pc L (.int x :: .ref (S.1 k 1 i) :: st) :=
  ca_puti (ci := 0) (j := 3) (ty := .int) h rfl rfl li_X0 tyX0 tyX0_ok nmX0 rfl hv (by decide) rfl kw_93 rfl (by decide +kernel) rfl rfl (fun z => absurd z (by decide)) hd kk
theorem gi_X0_32 {X : ch_X} {E : ch_E} {cc : ByteArray} {nL : Nat} {S : ch_S} {μ : ch_M} {kc ks pc : Nat} {L : List (Nat × Value)} {st : List Value} (h : ch_H X E RX0 cc nL) {k i : Nat} (hv : S.2.1 k 1 i) (hd : decode cc pc = .ok (.getfield 32, 3)) (kk : ch_W X E nL S μ kc ks (pc + 3) L (.int (μ k 1 i 4) :: st)) : ch_W X E nL S μ kc ks pc L (.ref (S.1 k 1 i) :: st) :=
  ca_geti (ci := 0) (j := 4) h rfl rfl li_X0 rfl hv (by decide) rfl kw_95 hd kk
theorem pi_X0_32 {X : ch_X} {E : ch_E} {cc : ByteArray} {nL : Nat} {S : ch_S} {μ : ch_M} {kc ks pc : Nat} {L : List (Nat × Value)} {st : List Value} (h : ch_H X E RX0 cc nL) {k i : Nat} {x : Int32} (hv : S.2.1 k 1 i) (hd : decode cc pc = .ok (.putfield 32, 3)) (kk : ch_W X E nL S (ch_st μ k 1 i 4 x) kc ks (pc + 3) L st) : ch_W X E nL S μ kc ks pc L (.int x :: .ref (S.1 k 1 i) :: st) :=
  ca_puti (ci := 0) (j := 4) (ty := .int) h rfl rfl li_X0 tyX0 tyX0_ok nmX0 rfl hv (by decide) rfl kw_95 rfl (by decide +kernel) rfl rfl (fun z => absurd z (by decide)) hd kk
theorem gi_X0_35 {X : ch_X} {E : ch_E} {cc : ByteArray} {nL : Nat} {S : ch_S} {μ : ch_M} {kc ks pc : Nat} {L : List (Nat × Value)} {st : List Value} (h : ch_H X E RX0 cc nL) {k i : Nat} (hv : S.2.1 k 1 i) (hd : decode cc pc = .ok (.getfield 35, 3)) (kk : ch_W X E nL S μ kc ks (pc + 3) L (.int (μ k 1 i 5) :: st)) : ch_W X E nL S μ kc ks pc L (.ref (S.1 k 1 i) :: st) :=
  ca_geti (ci := 0) (j := 5) h rfl rfl li_X0 rfl hv (by decide) rfl kw_98 hd kk
theorem pi_X0_35 {X : ch_X} {E : ch_E} {cc : ByteArray} {nL : Nat} {S : ch_S} {μ : ch_M} {kc ks pc : Nat} {L : List (Nat × Value)} {st : List Value} (h : ch_H X E RX0 cc nL) {k i : Nat} {x : Int32} (hv : S.2.1 k 1 i) (hd : decode cc pc = .ok (.putfield 35, 3)) (kk : ch_W X E nL S (ch_st μ k 1 i 5 x) kc ks (pc + 3) L st) : ch_W X E nL S μ kc ks pc L (.int x :: .ref (S.1 k 1 i) :: st) :=
  ca_puti (ci := 0) (j := 5) (ty := .int) h rfl rfl li_X0 tyX0 tyX0_ok nmX0 rfl hv (by decide) rfl kw_98 rfl (by decide +kernel) rfl rfl (fun z => absurd z (by decide)) hd kk
theorem gi_X0_38 {X : ch_X} {E : ch_E} {cc : ByteArray} {nL : Nat} {S : ch_S} {μ : ch_M} {kc ks pc : Nat} {L : List (Nat × Value)} {st : List Value} (h : ch_H X E RX0 cc nL) {k i : Nat} (hv : S.2.1 k 1 i) (hd : decode cc pc = .ok (.getfield 38, 3)) (kk : ch_W X E nL S μ kc ks (pc + 3) L (.int (μ k 1 i 6) :: st)) : ch_W X E nL S μ kc ks pc L (.ref (S.1 k 1 i) :: st) :=
  ca_geti (ci := 0) (j := 6) h rfl rfl li_X0 rfl hv (by decide) rfl kw_101 hd kk
theorem pi_X0_38 {X : ch_X} {E : ch_E} {cc : ByteArray} {nL : Nat} {S : ch_S} {μ : ch_M} {kc ks pc : Nat} {L : List (Nat × Value)} {st : List Value} (h : ch_H X E RX0 cc nL) {k i : Nat} {x : Int32} (hv : S.2.1 k 1 i) (hd : decode cc pc = .ok (.putfield 38, 3)) (kk : ch_W X E nL S (ch_st μ k 1 i 6 x) kc ks (pc + 3) L st) : ch_W X E nL S μ kc ks pc L (.int x :: .ref (S.1 k 1 i) :: st) :=
  ca_puti (ci := 0) (j := 6) (ty := .int) h rfl rfl li_X0 tyX0 tyX0_ok nmX0 rfl hv (by decide) rfl kw_101 rfl (by decide +kernel) rfl rfl (fun z => absurd z (by decide)) hd kk
theorem gi_X0_41 {X : ch_X} {E : ch_E} {cc : ByteArray} {nL : Nat} {S : ch_S} {μ : ch_M} {kc ks pc : Nat} {L : List (Nat × Value)} {st : List Value} (h : ch_H X E RX0 cc nL) {k i : Nat} (hv : S.2.1 k 1 i) (hd : decode cc pc = .ok (.getfield 41, 3)) (kk : ch_W X E nL S μ kc ks (pc + 3) L (.int (μ k 1 i 7) :: st)) : ch_W X E nL S μ kc ks pc L (.ref (S.1 k 1 i) :: st) :=
  ca_geti (ci := 0) (j := 7) h rfl rfl li_X0 rfl hv (by decide) rfl kw_106 hd kk
theorem pi_X0_41 {X : ch_X} {E : ch_E} {cc : ByteArray} {nL : Nat} {S : ch_S} {μ : ch_M} {kc ks pc : Nat} {L : List (Nat × Value)} {st : List Value} (h : ch_H X E RX0 cc nL) {k i : Nat} {x : Int32} (hv : S.2.1 k 1 i) (hd : decode cc pc = .ok (.putfield 41, 3)) (kk : ch_W X E nL S (ch_st μ k 1 i 7 x) kc ks (pc + 3) L st) : ch_W X E nL S μ kc ks pc L (.int x :: .ref (S.1 k 1 i) :: st) :=
  ca_puti (ci := 0) (j := 7) (ty := .int) h rfl rfl li_X0 tyX0 tyX0_ok nmX0 rfl hv (by decide) rfl kw_106 rfl (by decide +kernel) rfl rfl (fun z => absurd z (by decide)) hd kk
theorem gi_X0_44 {X : ch_X} {E : ch_E} {cc : ByteArray} {nL : Nat} {S : ch_S} {μ : ch_M} {kc ks pc : Nat} {L : List (Nat × Value)} {st : List Value} (h : ch_H X E RX0 cc nL) {k i : Nat} (hv : S.2.1 k 1 i) (hd : decode cc pc = .ok (.getfield 44, 3)) (kk : ch_W X E nL S μ kc ks (pc + 3) L (.int (μ k 1 i 8) :: st)) : ch_W X E nL S μ kc ks pc L (.ref (S.1 k 1 i) :: st) :=
  ca_geti (ci := 0) (j := 8) h rfl rfl li_X0 rfl hv (by decide) rfl kw_108 hd kk
theorem pi_X0_44 {X : ch_X} {E : ch_E} {cc : ByteArray} {nL : Nat} {S : ch_S} {μ : ch_M} {kc ks pc : Nat} {L : List (Nat × Value)} {st : List Value} (h : ch_H X E RX0 cc nL) {k i : Nat} {x : Int32} (hv : S.2.1 k 1 i) (hd : decode cc pc = .ok (.putfield 44, 3)) (kk : ch_W X E nL S (ch_st μ k 1 i 8 x) kc ks (pc + 3) L st) : ch_W X E nL S μ kc ks pc L (.int x :: .ref (S.1 k 1 i) :: st) :=
  ca_puti (ci := 0) (j := 8) (ty := .int) h rfl rfl li_X0 tyX0 tyX0_ok nmX0 rfl hv (by decide) rfl kw_108 rfl (by decide +kernel) rfl rfl (fun z => absurd z (by decide)) hd kk
theorem gr_X1_11 {X : ch_X} {E : ch_E} {cc : ByteArray} {nL : Nat} {S : ch_S} {μ : ch_M} {kc ks pc : Nat} {L : List (Nat × Value)} {st : List Value} (h : ch_H X E RX1 cc nL) {k i : Nat} {r : Option Nat} (hv : S.2.1 k 14 i) (hx : S.2.2 k 14 i 2 = r) (hd : decode cc pc = .ok (.getfield 11, 3)) (kk : ch_W X E nL S μ kc ks (pc + 3) L (va_rf r :: st)) : ch_W X E nL S μ kc ks pc L (.ref (S.1 k 14 i) :: st) :=
  ca_getr (ci := 1) (j := 2) h rfl rfl li_X1 rfl hv (by decide) rfl kw_332 hx hd kk
theorem gs_X1_11 {X : ch_X} {E : ch_E} {cc : ByteArray} {nL : Nat} {S : ch_S} {μ : ch_M} {kc ks pc : Nat} {L : List (Nat × Value)} {st : List Value} (h : ch_H X E RX1 cc nL) {k i : Nat} (hs : ch_Std E S) (hv : ch_V k 14 i) (hd : decode cc pc = .ok (.getfield 11, 3)) (kk : ch_W X E nL S μ kc ks (pc + 3) L (.ref (S.1 15 15 0) :: st)) : ch_W X E nL S μ kc ks pc L (.ref (S.1 k 14 i) :: st) :=
  gr_X1_11 h (hs.1 _ _ _ hv) (hs.2.1 k 14 i 2 _ hv rfl) hd kk
theorem gi_X1_18 {X : ch_X} {E : ch_E} {cc : ByteArray} {nL : Nat} {S : ch_S} {μ : ch_M} {kc ks pc : Nat} {L : List (Nat × Value)} {st : List Value} (h : ch_H X E RX1 cc nL) {k i : Nat} (hv : S.2.1 k 14 i) (hd : decode cc pc = .ok (.getfield 18, 3)) (kk : ch_W X E nL S μ kc ks (pc + 3) L (.int (μ k 14 i 0) :: st)) : ch_W X E nL S μ kc ks pc L (.ref (S.1 k 14 i) :: st) :=
  ca_geti (ci := 1) (j := 0) h rfl rfl li_X1 rfl hv (by decide) rfl kw_329 hd kk
theorem pi_X1_18 {X : ch_X} {E : ch_E} {cc : ByteArray} {nL : Nat} {S : ch_S} {μ : ch_M} {kc ks pc : Nat} {L : List (Nat × Value)} {st : List Value} (h : ch_H X E RX1 cc nL) {k i : Nat} {x : Int32} (hv : S.2.1 k 14 i) (hd : decode cc pc = .ok (.putfield 18, 3)) (kk : ch_W X E nL S (ch_st μ k 14 i 0 x) kc ks (pc + 3) L st) : ch_W X E nL S μ kc ks pc L (.int x :: .ref (S.1 k 14 i) :: st) :=
  ca_puti (ci := 1) (j := 0) (ty := .int) h rfl rfl li_X1 tyX1 tyX1_ok nmX1 rfl hv (by decide) rfl kw_329 rfl (by decide +kernel) rfl rfl (fun z => absurd z (by decide)) hd kk
theorem gi_X1_22 {X : ch_X} {E : ch_E} {cc : ByteArray} {nL : Nat} {S : ch_S} {μ : ch_M} {kc ks pc : Nat} {L : List (Nat × Value)} {st : List Value} (h : ch_H X E RX1 cc nL) {k i : Nat} (hv : S.2.1 k 14 i) (hd : decode cc pc = .ok (.getfield 22, 3)) (kk : ch_W X E nL S μ kc ks (pc + 3) L (.int (μ k 14 i 1) :: st)) : ch_W X E nL S μ kc ks pc L (.ref (S.1 k 14 i) :: st) :=
  ca_geti (ci := 1) (j := 1) h rfl rfl li_X1 rfl hv (by decide) rfl kw_331 hd kk
theorem pi_X1_22 {X : ch_X} {E : ch_E} {cc : ByteArray} {nL : Nat} {S : ch_S} {μ : ch_M} {kc ks pc : Nat} {L : List (Nat × Value)} {st : List Value} (h : ch_H X E RX1 cc nL) {k i : Nat} {x : Int32} (hv : S.2.1 k 14 i) (hd : decode cc pc = .ok (.putfield 22, 3)) (kk : ch_W X E nL S (ch_st μ k 14 i 1 x) kc ks (pc + 3) L st) : ch_W X E nL S μ kc ks pc L (.int x :: .ref (S.1 k 14 i) :: st) :=
  ca_puti (ci := 1) (j := 1) (ty := .int) h rfl rfl li_X1 tyX1 tyX1_ok nmX1 rfl hv (by decide) rfl kw_331 rfl (by decide +kernel) rfl rfl (fun z => absurd z (by decide)) hd kk
theorem gr_X2_9 {X : ch_X} {E : ch_E} {cc : ByteArray} {nL : Nat} {S : ch_S} {μ : ch_M} {kc ks pc : Nat} {L : List (Nat × Value)} {st : List Value} (h : ch_H X E RX2 cc nL) {k i : Nat} {r : Option Nat} (hv : S.2.1 k 3 i) (hx : S.2.2 k 3 i 10 = r) (hd : decode cc pc = .ok (.getfield 9, 3)) (kk : ch_W X E nL S μ kc ks (pc + 3) L (va_rf r :: st)) : ch_W X E nL S μ kc ks pc L (.ref (S.1 k 3 i) :: st) :=
  ca_getr (ci := 2) (j := 10) h rfl rfl li_X2 rfl hv (by decide) rfl kw_210 hx hd kk
theorem gs_X2_9 {X : ch_X} {E : ch_E} {cc : ByteArray} {nL : Nat} {S : ch_S} {μ : ch_M} {kc ks pc : Nat} {L : List (Nat × Value)} {st : List Value} (h : ch_H X E RX2 cc nL) {k i : Nat} (hs : ch_Std E S) (hv : ch_V k 3 i) (hd : decode cc pc = .ok (.getfield 9, 3)) (kk : ch_W X E nL S μ kc ks (pc + 3) L (.ref (S.1 k 4 i) :: st)) : ch_W X E nL S μ kc ks pc L (.ref (S.1 k 3 i) :: st) :=
  gr_X2_9 h (hs.1 _ _ _ hv) (hs.2.1 k 3 i 10 _ hv rfl) hd kk
theorem gr_X2_15 {X : ch_X} {E : ch_E} {cc : ByteArray} {nL : Nat} {S : ch_S} {μ : ch_M} {kc ks pc : Nat} {L : List (Nat × Value)} {st : List Value} (h : ch_H X E RX2 cc nL) {k i : Nat} {r : Option Nat} (hv : S.2.1 k 3 i) (hx : S.2.2 k 3 i 11 = r) (hd : decode cc pc = .ok (.getfield 15, 3)) (kk : ch_W X E nL S μ kc ks (pc + 3) L (va_rf r :: st)) : ch_W X E nL S μ kc ks pc L (.ref (S.1 k 3 i) :: st) :=
  ca_getr (ci := 2) (j := 11) h rfl rfl li_X2 rfl hv (by decide) rfl kw_211 hx hd kk
theorem gs_X2_15 {X : ch_X} {E : ch_E} {cc : ByteArray} {nL : Nat} {S : ch_S} {μ : ch_M} {kc ks pc : Nat} {L : List (Nat × Value)} {st : List Value} (h : ch_H X E RX2 cc nL) {k i : Nat} (hs : ch_Std E S) (hv : ch_V k 3 i) (hd : decode cc pc = .ok (.getfield 15, 3)) (kk : ch_W X E nL S μ kc ks (pc + 3) L (.ref (S.1 k 5 i) :: st)) : ch_W X E nL S μ kc ks pc L (.ref (S.1 k 3 i) :: st) :=
  gr_X2_15 h (hs.1 _ _ _ hv) (hs.2.1 k 3 i 11 _ hv rfl) hd kk
theorem gr_X2_18 {X : ch_X} {E : ch_E} {cc : ByteArray} {nL : Nat} {S : ch_S} {μ : ch_M} {kc ks pc : Nat} {L : List (Nat × Value)} {st : List Value} (h : ch_H X E RX2 cc nL) {k i : Nat} {r : Option Nat} (hv : S.2.1 k 3 i) (hx : S.2.2 k 3 i 12 = r) (hd : decode cc pc = .ok (.getfield 18, 3)) (kk : ch_W X E nL S μ kc ks (pc + 3) L (va_rf r :: st)) : ch_W X E nL S μ kc ks pc L (.ref (S.1 k 3 i) :: st) :=
  ca_getr (ci := 2) (j := 12) h rfl rfl li_X2 rfl hv (by decide) rfl kw_212 hx hd kk
theorem gs_X2_18 {X : ch_X} {E : ch_E} {cc : ByteArray} {nL : Nat} {S : ch_S} {μ : ch_M} {kc ks pc : Nat} {L : List (Nat × Value)} {st : List Value} (h : ch_H X E RX2 cc nL) {k i : Nat} (hs : ch_Std E S) (hv : ch_V k 3 i) (hd : decode cc pc = .ok (.getfield 18, 3)) (kk : ch_W X E nL S μ kc ks (pc + 3) L (.ref (S.1 k 6 i) :: st)) : ch_W X E nL S μ kc ks pc L (.ref (S.1 k 3 i) :: st) :=
  gr_X2_18 h (hs.1 _ _ _ hv) (hs.2.1 k 3 i 12 _ hv rfl) hd kk
theorem gi_X2_21 {X : ch_X} {E : ch_E} {cc : ByteArray} {nL : Nat} {S : ch_S} {μ : ch_M} {kc ks pc : Nat} {L : List (Nat × Value)} {st : List Value} (h : ch_H X E RX2 cc nL) {k i : Nat} (hv : S.2.1 k 3 i) (hd : decode cc pc = .ok (.getfield 21, 3)) (kk : ch_W X E nL S μ kc ks (pc + 3) L (.int (μ k 3 i 5) :: st)) : ch_W X E nL S μ kc ks pc L (.ref (S.1 k 3 i) :: st) :=
  ca_geti (ci := 2) (j := 5) h rfl rfl li_X2 rfl hv (by decide) rfl kw_188 hd kk
theorem pi_X2_21 {X : ch_X} {E : ch_E} {cc : ByteArray} {nL : Nat} {S : ch_S} {μ : ch_M} {kc ks pc : Nat} {L : List (Nat × Value)} {st : List Value} (h : ch_H X E RX2 cc nL) {k i : Nat} {x : Int32} (hv : S.2.1 k 3 i) (hd : decode cc pc = .ok (.putfield 21, 3)) (kk : ch_W X E nL S (ch_st μ k 3 i 5 x) kc ks (pc + 3) L st) : ch_W X E nL S μ kc ks pc L (.int x :: .ref (S.1 k 3 i) :: st) :=
  ca_puti (ci := 2) (j := 5) (ty := .int) h rfl rfl li_X2 tyX2 tyX2_ok nmX2 rfl hv (by decide) rfl kw_188 rfl (by decide +kernel) rfl rfl (fun z => absurd z (by decide)) hd kk
theorem gi_X2_25 {X : ch_X} {E : ch_E} {cc : ByteArray} {nL : Nat} {S : ch_S} {μ : ch_M} {kc ks pc : Nat} {L : List (Nat × Value)} {st : List Value} (h : ch_H X E RX2 cc nL) {k i : Nat} (hv : S.2.1 k 3 i) (hd : decode cc pc = .ok (.getfield 25, 3)) (kk : ch_W X E nL S μ kc ks (pc + 3) L (.int (μ k 3 i 8) :: st)) : ch_W X E nL S μ kc ks pc L (.ref (S.1 k 3 i) :: st) :=
  ca_geti (ci := 2) (j := 8) h rfl rfl li_X2 rfl hv (by decide) rfl kw_202 hd kk
theorem pi_X2_25 {X : ch_X} {E : ch_E} {cc : ByteArray} {nL : Nat} {S : ch_S} {μ : ch_M} {kc ks pc : Nat} {L : List (Nat × Value)} {st : List Value} (h : ch_H X E RX2 cc nL) {k i : Nat} {x : Int32} (hv : S.2.1 k 3 i) (hd : decode cc pc = .ok (.putfield 25, 3)) (kk : ch_W X E nL S (ch_st μ k 3 i 8 x) kc ks (pc + 3) L st) : ch_W X E nL S μ kc ks pc L (.int x :: .ref (S.1 k 3 i) :: st) :=
  ca_puti (ci := 2) (j := 8) (ty := .int) h rfl rfl li_X2 tyX2 tyX2_ok nmX2 rfl hv (by decide) rfl kw_202 rfl (by decide +kernel) rfl rfl (fun z => absurd z (by decide)) hd kk
theorem gi_X2_28 {X : ch_X} {E : ch_E} {cc : ByteArray} {nL : Nat} {S : ch_S} {μ : ch_M} {kc ks pc : Nat} {L : List (Nat × Value)} {st : List Value} (h : ch_H X E RX2 cc nL) {k i : Nat} (hv : S.2.1 k 3 i) (hd : decode cc pc = .ok (.getfield 28, 3)) (kk : ch_W X E nL S μ kc ks (pc + 3) L (.int (μ k 3 i 0) :: st)) : ch_W X E nL S μ kc ks pc L (.ref (S.1 k 3 i) :: st) :=
  ca_geti (ci := 2) (j := 0) h rfl rfl li_X2 rfl hv (by decide) rfl kw_167 hd kk
theorem pi_X2_28 {X : ch_X} {E : ch_E} {cc : ByteArray} {nL : Nat} {S : ch_S} {μ : ch_M} {kc ks pc : Nat} {L : List (Nat × Value)} {st : List Value} (h : ch_H X E RX2 cc nL) {k i : Nat} {x : Int32} (hv : S.2.1 k 3 i) (hd : decode cc pc = .ok (.putfield 28, 3)) (kk : ch_W X E nL S (ch_st μ k 3 i 0 x) kc ks (pc + 3) L st) : ch_W X E nL S μ kc ks pc L (.int x :: .ref (S.1 k 3 i) :: st) :=
  ca_puti (ci := 2) (j := 0) (ty := .int) h rfl rfl li_X2 tyX2 tyX2_ok nmX2 rfl hv (by decide) rfl kw_167 rfl (by decide +kernel) rfl rfl (fun z => absurd z (by decide)) hd kk
theorem gi_X2_31 {X : ch_X} {E : ch_E} {cc : ByteArray} {nL : Nat} {S : ch_S} {μ : ch_M} {kc ks pc : Nat} {L : List (Nat × Value)} {st : List Value} (h : ch_H X E RX2 cc nL) {k i : Nat} (hv : S.2.1 k 3 i) (hd : decode cc pc = .ok (.getfield 31, 3)) (kk : ch_W X E nL S μ kc ks (pc + 3) L (.int (μ k 3 i 1) :: st)) : ch_W X E nL S μ kc ks pc L (.ref (S.1 k 3 i) :: st) :=
  ca_geti (ci := 2) (j := 1) h rfl rfl li_X2 rfl hv (by decide) rfl kw_172 hd kk
theorem pi_X2_31 {X : ch_X} {E : ch_E} {cc : ByteArray} {nL : Nat} {S : ch_S} {μ : ch_M} {kc ks pc : Nat} {L : List (Nat × Value)} {st : List Value} (h : ch_H X E RX2 cc nL) {k i : Nat} {x : Int32} (hv : S.2.1 k 3 i) (hd : decode cc pc = .ok (.putfield 31, 3)) (kk : ch_W X E nL S (ch_st μ k 3 i 1 x) kc ks (pc + 3) L st) : ch_W X E nL S μ kc ks pc L (.int x :: .ref (S.1 k 3 i) :: st) :=
  ca_puti (ci := 2) (j := 1) (ty := .int) h rfl rfl li_X2 tyX2 tyX2_ok nmX2 rfl hv (by decide) rfl kw_172 rfl (by decide +kernel) rfl rfl (fun z => absurd z (by decide)) hd kk
theorem gi_X2_34 {X : ch_X} {E : ch_E} {cc : ByteArray} {nL : Nat} {S : ch_S} {μ : ch_M} {kc ks pc : Nat} {L : List (Nat × Value)} {st : List Value} (h : ch_H X E RX2 cc nL) {k i : Nat} (hv : S.2.1 k 3 i) (hd : decode cc pc = .ok (.getfield 34, 3)) (kk : ch_W X E nL S μ kc ks (pc + 3) L (.int (μ k 3 i 2) :: st)) : ch_W X E nL S μ kc ks pc L (.ref (S.1 k 3 i) :: st) :=
  ca_geti (ci := 2) (j := 2) h rfl rfl li_X2 rfl hv (by decide) rfl kw_177 hd kk
theorem pi_X2_34 {X : ch_X} {E : ch_E} {cc : ByteArray} {nL : Nat} {S : ch_S} {μ : ch_M} {kc ks pc : Nat} {L : List (Nat × Value)} {st : List Value} (h : ch_H X E RX2 cc nL) {k i : Nat} {x : Int32} (hv : S.2.1 k 3 i) (hd : decode cc pc = .ok (.putfield 34, 3)) (kk : ch_W X E nL S (ch_st μ k 3 i 2 x) kc ks (pc + 3) L st) : ch_W X E nL S μ kc ks pc L (.int x :: .ref (S.1 k 3 i) :: st) :=
  ca_puti (ci := 2) (j := 2) (ty := .int) h rfl rfl li_X2 tyX2 tyX2_ok nmX2 rfl hv (by decide) rfl kw_177 rfl (by decide +kernel) rfl rfl (fun z => absurd z (by decide)) hd kk
theorem gi_X2_37 {X : ch_X} {E : ch_E} {cc : ByteArray} {nL : Nat} {S : ch_S} {μ : ch_M} {kc ks pc : Nat} {L : List (Nat × Value)} {st : List Value} (h : ch_H X E RX2 cc nL) {k i : Nat} (hv : S.2.1 k 3 i) (hd : decode cc pc = .ok (.getfield 37, 3)) (kk : ch_W X E nL S μ kc ks (pc + 3) L (.int (μ k 3 i 3) :: st)) : ch_W X E nL S μ kc ks pc L (.ref (S.1 k 3 i) :: st) :=
  ca_geti (ci := 2) (j := 3) h rfl rfl li_X2 rfl hv (by decide) rfl kw_180 hd kk
theorem pi_X2_37 {X : ch_X} {E : ch_E} {cc : ByteArray} {nL : Nat} {S : ch_S} {μ : ch_M} {kc ks pc : Nat} {L : List (Nat × Value)} {st : List Value} (h : ch_H X E RX2 cc nL) {k i : Nat} {x : Int32} (hv : S.2.1 k 3 i) (hd : decode cc pc = .ok (.putfield 37, 3)) (kk : ch_W X E nL S (ch_st μ k 3 i 3 x) kc ks (pc + 3) L st) : ch_W X E nL S μ kc ks pc L (.int x :: .ref (S.1 k 3 i) :: st) :=
  ca_puti (ci := 2) (j := 3) (ty := .int) h rfl rfl li_X2 tyX2 tyX2_ok nmX2 rfl hv (by decide) rfl kw_180 rfl (by decide +kernel) rfl rfl (fun z => absurd z (by decide)) hd kk
theorem gi_X2_43 {X : ch_X} {E : ch_E} {cc : ByteArray} {nL : Nat} {S : ch_S} {μ : ch_M} {kc ks pc : Nat} {L : List (Nat × Value)} {st : List Value} (h : ch_H X E RX2 cc nL) {k i : Nat} (hv : S.2.1 k 3 i) (hd : decode cc pc = .ok (.getfield 43, 3)) (kk : ch_W X E nL S μ kc ks (pc + 3) L (.int (μ k 3 i 4) :: st)) : ch_W X E nL S μ kc ks pc L (.ref (S.1 k 3 i) :: st) :=
  ca_geti (ci := 2) (j := 4) h rfl rfl li_X2 rfl hv (by decide) rfl kw_183 hd kk
theorem pi_X2_43 {X : ch_X} {E : ch_E} {cc : ByteArray} {nL : Nat} {S : ch_S} {μ : ch_M} {kc ks pc : Nat} {L : List (Nat × Value)} {st : List Value} (h : ch_H X E RX2 cc nL) {k i : Nat} {x : Int32} (hv : S.2.1 k 3 i) (hd : decode cc pc = .ok (.putfield 43, 3)) (kk : ch_W X E nL S (ch_st μ k 3 i 4 x) kc ks (pc + 3) L st) : ch_W X E nL S μ kc ks pc L (.int x :: .ref (S.1 k 3 i) :: st) :=
  ca_puti (ci := 2) (j := 4) (ty := .int) h rfl rfl li_X2 tyX2 tyX2_ok nmX2 rfl hv (by decide) rfl kw_183 rfl (by decide +kernel) rfl rfl (fun z => absurd z (by decide)) hd kk
theorem gi_X2_46 {X : ch_X} {E : ch_E} {cc : ByteArray} {nL : Nat} {S : ch_S} {μ : ch_M} {kc ks pc : Nat} {L : List (Nat × Value)} {st : List Value} (h : ch_H X E RX2 cc nL) {k i : Nat} (hv : S.2.1 k 3 i) (hd : decode cc pc = .ok (.getfield 46, 3)) (kk : ch_W X E nL S μ kc ks (pc + 3) L (.int (μ k 3 i 6) :: st)) : ch_W X E nL S μ kc ks pc L (.ref (S.1 k 3 i) :: st) :=
  ca_geti (ci := 2) (j := 6) h rfl rfl li_X2 rfl hv (by decide) rfl kw_194 hd kk
theorem pi_X2_46 {X : ch_X} {E : ch_E} {cc : ByteArray} {nL : Nat} {S : ch_S} {μ : ch_M} {kc ks pc : Nat} {L : List (Nat × Value)} {st : List Value} (h : ch_H X E RX2 cc nL) {k i : Nat} {x : Int32} (hv : S.2.1 k 3 i) (hd : decode cc pc = .ok (.putfield 46, 3)) (kk : ch_W X E nL S (ch_st μ k 3 i 6 x) kc ks (pc + 3) L st) : ch_W X E nL S μ kc ks pc L (.int x :: .ref (S.1 k 3 i) :: st) :=
  ca_puti (ci := 2) (j := 6) (ty := .int) h rfl rfl li_X2 tyX2 tyX2_ok nmX2 rfl hv (by decide) rfl kw_194 rfl (by decide +kernel) rfl rfl (fun z => absurd z (by decide)) hd kk
theorem gi_X2_49 {X : ch_X} {E : ch_E} {cc : ByteArray} {nL : Nat} {S : ch_S} {μ : ch_M} {kc ks pc : Nat} {L : List (Nat × Value)} {st : List Value} (h : ch_H X E RX2 cc nL) {k i : Nat} (hv : S.2.1 k 3 i) (hd : decode cc pc = .ok (.getfield 49, 3)) (kk : ch_W X E nL S μ kc ks (pc + 3) L (.int (μ k 3 i 7) :: st)) : ch_W X E nL S μ kc ks pc L (.ref (S.1 k 3 i) :: st) :=
  ca_geti (ci := 2) (j := 7) h rfl rfl li_X2 rfl hv (by decide) rfl kw_199 hd kk
theorem pi_X2_49 {X : ch_X} {E : ch_E} {cc : ByteArray} {nL : Nat} {S : ch_S} {μ : ch_M} {kc ks pc : Nat} {L : List (Nat × Value)} {st : List Value} (h : ch_H X E RX2 cc nL) {k i : Nat} {x : Int32} (hv : S.2.1 k 3 i) (hd : decode cc pc = .ok (.putfield 49, 3)) (kk : ch_W X E nL S (ch_st μ k 3 i 7 x) kc ks (pc + 3) L st) : ch_W X E nL S μ kc ks pc L (.int x :: .ref (S.1 k 3 i) :: st) :=
  ca_puti (ci := 2) (j := 7) (ty := .int) h rfl rfl li_X2 tyX2 tyX2_ok nmX2 rfl hv (by decide) rfl kw_199 rfl (by decide +kernel) rfl rfl (fun z => absurd z (by decide)) hd kk
theorem gi_X2_52 {X : ch_X} {E : ch_E} {cc : ByteArray} {nL : Nat} {S : ch_S} {μ : ch_M} {kc ks pc : Nat} {L : List (Nat × Value)} {st : List Value} (h : ch_H X E RX2 cc nL) {k i : Nat} (hv : S.2.1 k 3 i) (hd : decode cc pc = .ok (.getfield 52, 3)) (kk : ch_W X E nL S μ kc ks (pc + 3) L (.int (μ k 3 i 9) :: st)) : ch_W X E nL S μ kc ks pc L (.ref (S.1 k 3 i) :: st) :=
  ca_geti (ci := 2) (j := 9) h rfl rfl li_X2 rfl hv (by decide) rfl kw_207 hd kk
theorem pi_X2_52 {X : ch_X} {E : ch_E} {cc : ByteArray} {nL : Nat} {S : ch_S} {μ : ch_M} {kc ks pc : Nat} {L : List (Nat × Value)} {st : List Value} (h : ch_H X E RX2 cc nL) {k i : Nat} {x : Int32} (hv : S.2.1 k 3 i) (hd : decode cc pc = .ok (.putfield 52, 3)) (kk : ch_W X E nL S (ch_st μ k 3 i 9 x) kc ks (pc + 3) L st) : ch_W X E nL S μ kc ks pc L (.int x :: .ref (S.1 k 3 i) :: st) :=
  ca_puti (ci := 2) (j := 9) (ty := .int) h rfl rfl li_X2 tyX2 tyX2_ok nmX2 rfl hv (by decide) rfl kw_207 rfl (by decide +kernel) rfl rfl (fun z => absurd z (by decide)) hd kk
theorem gr_X3_11 {X : ch_X} {E : ch_E} {cc : ByteArray} {nL : Nat} {S : ch_S} {μ : ch_M} {kc ks pc : Nat} {L : List (Nat × Value)} {st : List Value} (h : ch_H X E RX3 cc nL) {k i : Nat} {r : Option Nat} (hv : S.2.1 k 0 i) (hx : S.2.2 k 0 i 10 = r) (hd : decode cc pc = .ok (.getfield 11, 3)) (kk : ch_W X E nL S μ kc ks (pc + 3) L (va_rf r :: st)) : ch_W X E nL S μ kc ks pc L (.ref (S.1 k 0 i) :: st) :=
  ca_getr (ci := 3) (j := 10) h rfl rfl li_X3 rfl hv (by decide) rfl kw_278 hx hd kk
theorem gs_X3_11 {X : ch_X} {E : ch_E} {cc : ByteArray} {nL : Nat} {S : ch_S} {μ : ch_M} {kc ks pc : Nat} {L : List (Nat × Value)} {st : List Value} (h : ch_H X E RX3 cc nL) {k i : Nat} (hs : ch_Std E S) (hv : ch_V k 0 i) (hd : decode cc pc = .ok (.getfield 11, 3)) (kk : ch_W X E nL S μ kc ks (pc + 3) L (.ref (S.1 k 8 0) :: st)) : ch_W X E nL S μ kc ks pc L (.ref (S.1 k 0 i) :: st) :=
  gr_X3_11 h (hs.1 _ _ _ hv) (hs.2.1 k 0 i 10 _ hv rfl) hd kk
theorem gr_X3_19 {X : ch_X} {E : ch_E} {cc : ByteArray} {nL : Nat} {S : ch_S} {μ : ch_M} {kc ks pc : Nat} {L : List (Nat × Value)} {st : List Value} (h : ch_H X E RX3 cc nL) {k i : Nat} {r : Option Nat} (hv : S.2.1 k 0 i) (hx : S.2.2 k 0 i 11 = r) (hd : decode cc pc = .ok (.getfield 19, 3)) (kk : ch_W X E nL S μ kc ks (pc + 3) L (va_rf r :: st)) : ch_W X E nL S μ kc ks pc L (.ref (S.1 k 0 i) :: st) :=
  ca_getr (ci := 3) (j := 11) h rfl rfl li_X3 rfl hv (by decide) rfl kw_279 hx hd kk
theorem gs_X3_19 {X : ch_X} {E : ch_E} {cc : ByteArray} {nL : Nat} {S : ch_S} {μ : ch_M} {kc ks pc : Nat} {L : List (Nat × Value)} {st : List Value} (h : ch_H X E RX3 cc nL) {k i : Nat} (hs : ch_Std E S) (hv : ch_V k 0 i) (hd : decode cc pc = .ok (.getfield 19, 3)) (kk : ch_W X E nL S μ kc ks (pc + 3) L (.ref (S.1 k 9 0) :: st)) : ch_W X E nL S μ kc ks pc L (.ref (S.1 k 0 i) :: st) :=
  gr_X3_19 h (hs.1 _ _ _ hv) (hs.2.1 k 0 i 11 _ hv rfl) hd kk
theorem gr_X3_25 {X : ch_X} {E : ch_E} {cc : ByteArray} {nL : Nat} {S : ch_S} {μ : ch_M} {kc ks pc : Nat} {L : List (Nat × Value)} {st : List Value} (h : ch_H X E RX3 cc nL) {k i : Nat} {r : Option Nat} (hv : S.2.1 k 0 i) (hx : S.2.2 k 0 i 12 = r) (hd : decode cc pc = .ok (.getfield 25, 3)) (kk : ch_W X E nL S μ kc ks (pc + 3) L (va_rf r :: st)) : ch_W X E nL S μ kc ks pc L (.ref (S.1 k 0 i) :: st) :=
  ca_getr (ci := 3) (j := 12) h rfl rfl li_X3 rfl hv (by decide) rfl kw_280 hx hd kk
theorem gs_X3_25 {X : ch_X} {E : ch_E} {cc : ByteArray} {nL : Nat} {S : ch_S} {μ : ch_M} {kc ks pc : Nat} {L : List (Nat × Value)} {st : List Value} (h : ch_H X E RX3 cc nL) {k i : Nat} (hs : ch_Std E S) (hv : ch_V k 0 i) (hd : decode cc pc = .ok (.getfield 25, 3)) (kk : ch_W X E nL S μ kc ks (pc + 3) L (.ref (S.1 k 10 0) :: st)) : ch_W X E nL S μ kc ks pc L (.ref (S.1 k 0 i) :: st) :=
  gr_X3_25 h (hs.1 _ _ _ hv) (hs.2.1 k 0 i 12 _ hv rfl) hd kk
theorem gr_X3_29 {X : ch_X} {E : ch_E} {cc : ByteArray} {nL : Nat} {S : ch_S} {μ : ch_M} {kc ks pc : Nat} {L : List (Nat × Value)} {st : List Value} (h : ch_H X E RX3 cc nL) {k i : Nat} {r : Option Nat} (hv : S.2.1 k 0 i) (hx : S.2.2 k 0 i 13 = r) (hd : decode cc pc = .ok (.getfield 29, 3)) (kk : ch_W X E nL S μ kc ks (pc + 3) L (va_rf r :: st)) : ch_W X E nL S μ kc ks pc L (.ref (S.1 k 0 i) :: st) :=
  ca_getr (ci := 3) (j := 13) h rfl rfl li_X3 rfl hv (by decide) rfl kw_281 hx hd kk
theorem gs_X3_29 {X : ch_X} {E : ch_E} {cc : ByteArray} {nL : Nat} {S : ch_S} {μ : ch_M} {kc ks pc : Nat} {L : List (Nat × Value)} {st : List Value} (h : ch_H X E RX3 cc nL) {k i : Nat} (hs : ch_Std E S) (hv : ch_V k 0 i) (hd : decode cc pc = .ok (.getfield 29, 3)) (kk : ch_W X E nL S μ kc ks (pc + 3) L (.ref (S.1 k 7 0) :: st)) : ch_W X E nL S μ kc ks pc L (.ref (S.1 k 0 i) :: st) :=
  gr_X3_29 h (hs.1 _ _ _ hv) (hs.2.1 k 0 i 13 _ hv rfl) hd kk
theorem gr_X3_34 {X : ch_X} {E : ch_E} {cc : ByteArray} {nL : Nat} {S : ch_S} {μ : ch_M} {kc ks pc : Nat} {L : List (Nat × Value)} {st : List Value} (h : ch_H X E RX3 cc nL) {k i : Nat} {r : Option Nat} (hv : S.2.1 k 0 i) (hx : S.2.2 k 0 i 14 = r) (hd : decode cc pc = .ok (.getfield 34, 3)) (kk : ch_W X E nL S μ kc ks (pc + 3) L (va_rf r :: st)) : ch_W X E nL S μ kc ks pc L (.ref (S.1 k 0 i) :: st) :=
  ca_getr (ci := 3) (j := 14) h rfl rfl li_X3 rfl hv (by decide) rfl kw_282 hx hd kk
theorem gs_X3_34 {X : ch_X} {E : ch_E} {cc : ByteArray} {nL : Nat} {S : ch_S} {μ : ch_M} {kc ks pc : Nat} {L : List (Nat × Value)} {st : List Value} (h : ch_H X E RX3 cc nL) {k i : Nat} (hs : ch_Std E S) (hv : ch_V k 0 i) (hd : decode cc pc = .ok (.getfield 34, 3)) (kk : ch_W X E nL S μ kc ks (pc + 3) L (.ref (S.1 k 1 8) :: st)) : ch_W X E nL S μ kc ks pc L (.ref (S.1 k 0 i) :: st) :=
  gr_X3_34 h (hs.1 _ _ _ hv) (hs.2.1 k 0 i 14 _ hv rfl) hd kk
theorem gr_X3_39 {X : ch_X} {E : ch_E} {cc : ByteArray} {nL : Nat} {S : ch_S} {μ : ch_M} {kc ks pc : Nat} {L : List (Nat × Value)} {st : List Value} (h : ch_H X E RX3 cc nL) {k i : Nat} {r : Option Nat} (hv : S.2.1 k 0 i) (hx : S.2.2 k 0 i 15 = r) (hd : decode cc pc = .ok (.getfield 39, 3)) (kk : ch_W X E nL S μ kc ks (pc + 3) L (va_rf r :: st)) : ch_W X E nL S μ kc ks pc L (.ref (S.1 k 0 i) :: st) :=
  ca_getr (ci := 3) (j := 15) h rfl rfl li_X3 rfl hv (by decide) rfl kw_283 hx hd kk
theorem gs_X3_39 {X : ch_X} {E : ch_E} {cc : ByteArray} {nL : Nat} {S : ch_S} {μ : ch_M} {kc ks pc : Nat} {L : List (Nat × Value)} {st : List Value} (h : ch_H X E RX3 cc nL) {k i : Nat} (hs : ch_Std E S) (hv : ch_V k 0 i) (hd : decode cc pc = .ok (.getfield 39, 3)) (kk : ch_W X E nL S μ kc ks (pc + 3) L (.ref (S.1 k 2 64) :: st)) : ch_W X E nL S μ kc ks pc L (.ref (S.1 k 0 i) :: st) :=
  gr_X3_39 h (hs.1 _ _ _ hv) (hs.2.1 k 0 i 15 _ hv rfl) hd kk
theorem gr_X3_44 {X : ch_X} {E : ch_E} {cc : ByteArray} {nL : Nat} {S : ch_S} {μ : ch_M} {kc ks pc : Nat} {L : List (Nat × Value)} {st : List Value} (h : ch_H X E RX3 cc nL) {k i : Nat} {r : Option Nat} (hv : S.2.1 k 0 i) (hx : S.2.2 k 0 i 16 = r) (hd : decode cc pc = .ok (.getfield 44, 3)) (kk : ch_W X E nL S μ kc ks (pc + 3) L (va_rf r :: st)) : ch_W X E nL S μ kc ks pc L (.ref (S.1 k 0 i) :: st) :=
  ca_getr (ci := 3) (j := 16) h rfl rfl li_X3 rfl hv (by decide) rfl kw_284 hx hd kk
theorem gs_X3_44 {X : ch_X} {E : ch_E} {cc : ByteArray} {nL : Nat} {S : ch_S} {μ : ch_M} {kc ks pc : Nat} {L : List (Nat × Value)} {st : List Value} (h : ch_H X E RX3 cc nL) {k i : Nat} (hs : ch_Std E S) (hv : ch_V k 0 i) (hd : decode cc pc = .ok (.getfield 44, 3)) (kk : ch_W X E nL S μ kc ks (pc + 3) L (.ref (S.1 k 3 12) :: st)) : ch_W X E nL S μ kc ks pc L (.ref (S.1 k 0 i) :: st) :=
  gr_X3_44 h (hs.1 _ _ _ hv) (hs.2.1 k 0 i 16 _ hv rfl) hd kk
theorem gi_X3_51 {X : ch_X} {E : ch_E} {cc : ByteArray} {nL : Nat} {S : ch_S} {μ : ch_M} {kc ks pc : Nat} {L : List (Nat × Value)} {st : List Value} (h : ch_H X E RX3 cc nL) {k i : Nat} (hv : S.2.1 k 0 i) (hd : decode cc pc = .ok (.getfield 51, 3)) (kk : ch_W X E nL S μ kc ks (pc + 3) L (.int (μ k 0 i 4) :: st)) : ch_W X E nL S μ kc ks pc L (.ref (S.1 k 0 i) :: st) :=
  ca_geti (ci := 3) (j := 4) h rfl rfl li_X3 rfl hv (by decide) rfl kw_261 hd kk
theorem pi_X3_51 {X : ch_X} {E : ch_E} {cc : ByteArray} {nL : Nat} {S : ch_S} {μ : ch_M} {kc ks pc : Nat} {L : List (Nat × Value)} {st : List Value} (h : ch_H X E RX3 cc nL) {k i : Nat} {x : Int32} (hv : S.2.1 k 0 i) (hd : decode cc pc = .ok (.putfield 51, 3)) (kk : ch_W X E nL S (ch_st μ k 0 i 4 x) kc ks (pc + 3) L st) : ch_W X E nL S μ kc ks pc L (.int x :: .ref (S.1 k 0 i) :: st) :=
  ca_puti (ci := 3) (j := 4) (ty := .int) h rfl rfl li_X3 tyX3 tyX3_ok nmX3 rfl hv (by decide) rfl kw_261 rfl (by decide +kernel) rfl rfl (fun z => absurd z (by decide)) hd kk
theorem gi_X3_55 {X : ch_X} {E : ch_E} {cc : ByteArray} {nL : Nat} {S : ch_S} {μ : ch_M} {kc ks pc : Nat} {L : List (Nat × Value)} {st : List Value} (h : ch_H X E RX3 cc nL) {k i : Nat} (hv : S.2.1 k 0 i) (hd : decode cc pc = .ok (.getfield 55, 3)) (kk : ch_W X E nL S μ kc ks (pc + 3) L (.int (μ k 0 i 5) :: st)) : ch_W X E nL S μ kc ks pc L (.ref (S.1 k 0 i) :: st) :=
  ca_geti (ci := 3) (j := 5) h rfl rfl li_X3 rfl hv (by decide) rfl kw_264 hd kk
theorem pi_X3_55 {X : ch_X} {E : ch_E} {cc : ByteArray} {nL : Nat} {S : ch_S} {μ : ch_M} {kc ks pc : Nat} {L : List (Nat × Value)} {st : List Value} (h : ch_H X E RX3 cc nL) {k i : Nat} {x : Int32} (hv : S.2.1 k 0 i) (hd : decode cc pc = .ok (.putfield 55, 3)) (kk : ch_W X E nL S (ch_st μ k 0 i 5 x) kc ks (pc + 3) L st) : ch_W X E nL S μ kc ks pc L (.int x :: .ref (S.1 k 0 i) :: st) :=
  ca_puti (ci := 3) (j := 5) (ty := .int) h rfl rfl li_X3 tyX3 tyX3_ok nmX3 rfl hv (by decide) rfl kw_264 rfl (by decide +kernel) rfl rfl (fun z => absurd z (by decide)) hd kk
theorem gi_X3_58 {X : ch_X} {E : ch_E} {cc : ByteArray} {nL : Nat} {S : ch_S} {μ : ch_M} {kc ks pc : Nat} {L : List (Nat × Value)} {st : List Value} (h : ch_H X E RX3 cc nL) {k i : Nat} (hv : S.2.1 k 0 i) (hd : decode cc pc = .ok (.getfield 58, 3)) (kk : ch_W X E nL S μ kc ks (pc + 3) L (.int (μ k 0 i 6) :: st)) : ch_W X E nL S μ kc ks pc L (.ref (S.1 k 0 i) :: st) :=
  ca_geti (ci := 3) (j := 6) h rfl rfl li_X3 rfl hv (by decide) rfl kw_267 hd kk
theorem pi_X3_58 {X : ch_X} {E : ch_E} {cc : ByteArray} {nL : Nat} {S : ch_S} {μ : ch_M} {kc ks pc : Nat} {L : List (Nat × Value)} {st : List Value} (h : ch_H X E RX3 cc nL) {k i : Nat} {x : Int32} (hv : S.2.1 k 0 i) (hd : decode cc pc = .ok (.putfield 58, 3)) (kk : ch_W X E nL S (ch_st μ k 0 i 6 x) kc ks (pc + 3) L st) : ch_W X E nL S μ kc ks pc L (.int x :: .ref (S.1 k 0 i) :: st) :=
  ca_puti (ci := 3) (j := 6) (ty := .int) h rfl rfl li_X3 tyX3 tyX3_ok nmX3 rfl hv (by decide) rfl kw_267 rfl (by decide +kernel) rfl rfl (fun z => absurd z (by decide)) hd kk
theorem gi_X3_61 {X : ch_X} {E : ch_E} {cc : ByteArray} {nL : Nat} {S : ch_S} {μ : ch_M} {kc ks pc : Nat} {L : List (Nat × Value)} {st : List Value} (h : ch_H X E RX3 cc nL) {k i : Nat} (hv : S.2.1 k 0 i) (hd : decode cc pc = .ok (.getfield 61, 3)) (kk : ch_W X E nL S μ kc ks (pc + 3) L (.int (μ k 0 i 7) :: st)) : ch_W X E nL S μ kc ks pc L (.ref (S.1 k 0 i) :: st) :=
  ca_geti (ci := 3) (j := 7) h rfl rfl li_X3 rfl hv (by decide) rfl kw_269 hd kk
theorem pi_X3_61 {X : ch_X} {E : ch_E} {cc : ByteArray} {nL : Nat} {S : ch_S} {μ : ch_M} {kc ks pc : Nat} {L : List (Nat × Value)} {st : List Value} (h : ch_H X E RX3 cc nL) {k i : Nat} {x : Int32} (hv : S.2.1 k 0 i) (hd : decode cc pc = .ok (.putfield 61, 3)) (kk : ch_W X E nL S (ch_st μ k 0 i 7 x) kc ks (pc + 3) L st) : ch_W X E nL S μ kc ks pc L (.int x :: .ref (S.1 k 0 i) :: st) :=
  ca_puti (ci := 3) (j := 7) (ty := .int) h rfl rfl li_X3 tyX3 tyX3_ok nmX3 rfl hv (by decide) rfl kw_269 rfl (by decide +kernel) rfl rfl (fun z => absurd z (by decide)) hd kk
theorem gi_X3_64 {X : ch_X} {E : ch_E} {cc : ByteArray} {nL : Nat} {S : ch_S} {μ : ch_M} {kc ks pc : Nat} {L : List (Nat × Value)} {st : List Value} (h : ch_H X E RX3 cc nL) {k i : Nat} (hv : S.2.1 k 0 i) (hd : decode cc pc = .ok (.getfield 64, 3)) (kk : ch_W X E nL S μ kc ks (pc + 3) L (.int (μ k 0 i 8) :: st)) : ch_W X E nL S μ kc ks pc L (.ref (S.1 k 0 i) :: st) :=
  ca_geti (ci := 3) (j := 8) h rfl rfl li_X3 rfl hv (by decide) rfl kw_272 hd kk
theorem pi_X3_64 {X : ch_X} {E : ch_E} {cc : ByteArray} {nL : Nat} {S : ch_S} {μ : ch_M} {kc ks pc : Nat} {L : List (Nat × Value)} {st : List Value} (h : ch_H X E RX3 cc nL) {k i : Nat} {x : Int32} (hv : S.2.1 k 0 i) (hd : decode cc pc = .ok (.putfield 64, 3)) (kk : ch_W X E nL S (ch_st μ k 0 i 8 x) kc ks (pc + 3) L st) : ch_W X E nL S μ kc ks pc L (.int x :: .ref (S.1 k 0 i) :: st) :=
  ca_puti (ci := 3) (j := 8) (ty := .int) h rfl rfl li_X3 tyX3 tyX3_ok nmX3 rfl hv (by decide) rfl kw_272 rfl (by decide +kernel) rfl rfl (fun z => absurd z (by decide)) hd kk
theorem gi_X3_67 {X : ch_X} {E : ch_E} {cc : ByteArray} {nL : Nat} {S : ch_S} {μ : ch_M} {kc ks pc : Nat} {L : List (Nat × Value)} {st : List Value} (h : ch_H X E RX3 cc nL) {k i : Nat} (hv : S.2.1 k 0 i) (hd : decode cc pc = .ok (.getfield 67, 3)) (kk : ch_W X E nL S μ kc ks (pc + 3) L (.int (μ k 0 i 9) :: st)) : ch_W X E nL S μ kc ks pc L (.ref (S.1 k 0 i) :: st) :=
  ca_geti (ci := 3) (j := 9) h rfl rfl li_X3 rfl hv (by decide) rfl kw_275 hd kk
theorem pi_X3_67 {X : ch_X} {E : ch_E} {cc : ByteArray} {nL : Nat} {S : ch_S} {μ : ch_M} {kc ks pc : Nat} {L : List (Nat × Value)} {st : List Value} (h : ch_H X E RX3 cc nL) {k i : Nat} {x : Int32} (hv : S.2.1 k 0 i) (hd : decode cc pc = .ok (.putfield 67, 3)) (kk : ch_W X E nL S (ch_st μ k 0 i 9 x) kc ks (pc + 3) L st) : ch_W X E nL S μ kc ks pc L (.int x :: .ref (S.1 k 0 i) :: st) :=
  ca_puti (ci := 3) (j := 9) (ty := .int) h rfl rfl li_X3 tyX3 tyX3_ok nmX3 rfl hv (by decide) rfl kw_275 rfl (by decide +kernel) rfl rfl (fun z => absurd z (by decide)) hd kk
theorem gi_X3_70 {X : ch_X} {E : ch_E} {cc : ByteArray} {nL : Nat} {S : ch_S} {μ : ch_M} {kc ks pc : Nat} {L : List (Nat × Value)} {st : List Value} (h : ch_H X E RX3 cc nL) {k i : Nat} (hv : S.2.1 k 0 i) (hd : decode cc pc = .ok (.getfield 70, 3)) (kk : ch_W X E nL S μ kc ks (pc + 3) L (.int (μ k 0 i 0) :: st)) : ch_W X E nL S μ kc ks pc L (.ref (S.1 k 0 i) :: st) :=
  ca_geti (ci := 3) (j := 0) h rfl rfl li_X3 rfl hv (by decide) rfl kw_249 hd kk
theorem pi_X3_70 {X : ch_X} {E : ch_E} {cc : ByteArray} {nL : Nat} {S : ch_S} {μ : ch_M} {kc ks pc : Nat} {L : List (Nat × Value)} {st : List Value} (h : ch_H X E RX3 cc nL) {k i : Nat} {x : Int32} (hv : S.2.1 k 0 i) (hd : decode cc pc = .ok (.putfield 70, 3)) (kk : ch_W X E nL S (ch_st μ k 0 i 0 x) kc ks (pc + 3) L st) : ch_W X E nL S μ kc ks pc L (.int x :: .ref (S.1 k 0 i) :: st) :=
  ca_puti (ci := 3) (j := 0) (ty := .int) h rfl rfl li_X3 tyX3 tyX3_ok nmX3 rfl hv (by decide) rfl kw_249 rfl (by decide +kernel) rfl rfl (fun z => absurd z (by decide)) hd kk
theorem gi_X3_73 {X : ch_X} {E : ch_E} {cc : ByteArray} {nL : Nat} {S : ch_S} {μ : ch_M} {kc ks pc : Nat} {L : List (Nat × Value)} {st : List Value} (h : ch_H X E RX3 cc nL) {k i : Nat} (hv : S.2.1 k 0 i) (hd : decode cc pc = .ok (.getfield 73, 3)) (kk : ch_W X E nL S μ kc ks (pc + 3) L (.int (μ k 0 i 1) :: st)) : ch_W X E nL S μ kc ks pc L (.ref (S.1 k 0 i) :: st) :=
  ca_geti (ci := 3) (j := 1) h rfl rfl li_X3 rfl hv (by decide) rfl kw_252 hd kk
theorem pi_X3_73 {X : ch_X} {E : ch_E} {cc : ByteArray} {nL : Nat} {S : ch_S} {μ : ch_M} {kc ks pc : Nat} {L : List (Nat × Value)} {st : List Value} (h : ch_H X E RX3 cc nL) {k i : Nat} {x : Int32} (hv : S.2.1 k 0 i) (hd : decode cc pc = .ok (.putfield 73, 3)) (kk : ch_W X E nL S (ch_st μ k 0 i 1 x) kc ks (pc + 3) L st) : ch_W X E nL S μ kc ks pc L (.int x :: .ref (S.1 k 0 i) :: st) :=
  ca_puti (ci := 3) (j := 1) (ty := .int) h rfl rfl li_X3 tyX3 tyX3_ok nmX3 rfl hv (by decide) rfl kw_252 rfl (by decide +kernel) rfl rfl (fun z => absurd z (by decide)) hd kk
theorem gi_X3_76 {X : ch_X} {E : ch_E} {cc : ByteArray} {nL : Nat} {S : ch_S} {μ : ch_M} {kc ks pc : Nat} {L : List (Nat × Value)} {st : List Value} (h : ch_H X E RX3 cc nL) {k i : Nat} (hv : S.2.1 k 0 i) (hd : decode cc pc = .ok (.getfield 76, 3)) (kk : ch_W X E nL S μ kc ks (pc + 3) L (.int (μ k 0 i 2) :: st)) : ch_W X E nL S μ kc ks pc L (.ref (S.1 k 0 i) :: st) :=
  ca_geti (ci := 3) (j := 2) h rfl rfl li_X3 rfl hv (by decide) rfl kw_256 hd kk
theorem pi_X3_76 {X : ch_X} {E : ch_E} {cc : ByteArray} {nL : Nat} {S : ch_S} {μ : ch_M} {kc ks pc : Nat} {L : List (Nat × Value)} {st : List Value} (h : ch_H X E RX3 cc nL) {k i : Nat} {x : Int32} (hv : S.2.1 k 0 i) (hd : decode cc pc = .ok (.putfield 76, 3)) (kk : ch_W X E nL S (ch_st μ k 0 i 2 x) kc ks (pc + 3) L st) : ch_W X E nL S μ kc ks pc L (.int x :: .ref (S.1 k 0 i) :: st) :=
  ca_puti (ci := 3) (j := 2) (ty := .int) h rfl rfl li_X3 tyX3 tyX3_ok nmX3 rfl hv (by decide) rfl kw_256 rfl (by decide +kernel) rfl rfl (fun z => absurd z (by decide)) hd kk
theorem gi_X3_79 {X : ch_X} {E : ch_E} {cc : ByteArray} {nL : Nat} {S : ch_S} {μ : ch_M} {kc ks pc : Nat} {L : List (Nat × Value)} {st : List Value} (h : ch_H X E RX3 cc nL) {k i : Nat} (hv : S.2.1 k 0 i) (hd : decode cc pc = .ok (.getfield 79, 3)) (kk : ch_W X E nL S μ kc ks (pc + 3) L (.int (μ k 0 i 3) :: st)) : ch_W X E nL S μ kc ks pc L (.ref (S.1 k 0 i) :: st) :=
  ca_geti (ci := 3) (j := 3) h rfl rfl li_X3 rfl hv (by decide) rfl kw_260 hd kk
theorem pi_X3_79 {X : ch_X} {E : ch_E} {cc : ByteArray} {nL : Nat} {S : ch_S} {μ : ch_M} {kc ks pc : Nat} {L : List (Nat × Value)} {st : List Value} (h : ch_H X E RX3 cc nL) {k i : Nat} {x : Int32} (hv : S.2.1 k 0 i) (hd : decode cc pc = .ok (.putfield 79, 3)) (kk : ch_W X E nL S (ch_st μ k 0 i 3 x) kc ks (pc + 3) L st) : ch_W X E nL S μ kc ks pc L (.int x :: .ref (S.1 k 0 i) :: st) :=
  ca_puti (ci := 3) (j := 3) (ty := .int) h rfl rfl li_X3 tyX3 tyX3_ok nmX3 rfl hv (by decide) rfl kw_260 rfl (by decide +kernel) rfl rfl (fun z => absurd z (by decide)) hd kk
theorem gi_X3_128 {X : ch_X} {E : ch_E} {cc : ByteArray} {nL : Nat} {S : ch_S} {μ : ch_M} {kc ks pc : Nat} {L : List (Nat × Value)} {st : List Value} (h : ch_H X E RX3 cc nL) {k i : Nat} (hv : S.2.1 k 1 i) (hd : decode cc pc = .ok (.getfield 128, 3)) (kk : ch_W X E nL S μ kc ks (pc + 3) L (.int (μ k 1 i 6) :: st)) : ch_W X E nL S μ kc ks pc L (.ref (S.1 k 1 i) :: st) :=
  ca_geti (ci := 0) (j := 6) h rfl rfl li_X0 rfl hv (by decide) rfl kw_104 hd kk
theorem pi_X3_128 {X : ch_X} {E : ch_E} {cc : ByteArray} {nL : Nat} {S : ch_S} {μ : ch_M} {kc ks pc : Nat} {L : List (Nat × Value)} {st : List Value} (h : ch_H X E RX3 cc nL) {k i : Nat} {x : Int32} (hv : S.2.1 k 1 i) (hd : decode cc pc = .ok (.putfield 128, 3)) (kk : ch_W X E nL S (ch_st μ k 1 i 6 x) kc ks (pc + 3) L st) : ch_W X E nL S μ kc ks pc L (.int x :: .ref (S.1 k 1 i) :: st) :=
  ca_puti (ci := 0) (j := 6) (ty := .int) h rfl rfl li_X0 tyX0 tyX0_ok nmX0 rfl hv (by decide) rfl kw_104 rfl (by decide +kernel) rfl rfl (fun z => absurd z (by decide)) hd kk
theorem gi_X3_131 {X : ch_X} {E : ch_E} {cc : ByteArray} {nL : Nat} {S : ch_S} {μ : ch_M} {kc ks pc : Nat} {L : List (Nat × Value)} {st : List Value} (h : ch_H X E RX3 cc nL) {k i : Nat} (hv : S.2.1 k 3 i) (hd : decode cc pc = .ok (.getfield 131, 3)) (kk : ch_W X E nL S μ kc ks (pc + 3) L (.int (μ k 3 i 4) :: st)) : ch_W X E nL S μ kc ks pc L (.ref (S.1 k 3 i) :: st) :=
  ca_geti (ci := 2) (j := 4) h rfl rfl li_X2 rfl hv (by decide) rfl kw_186 hd kk
theorem pi_X3_131 {X : ch_X} {E : ch_E} {cc : ByteArray} {nL : Nat} {S : ch_S} {μ : ch_M} {kc ks pc : Nat} {L : List (Nat × Value)} {st : List Value} (h : ch_H X E RX3 cc nL) {k i : Nat} {x : Int32} (hv : S.2.1 k 3 i) (hd : decode cc pc = .ok (.putfield 131, 3)) (kk : ch_W X E nL S (ch_st μ k 3 i 4 x) kc ks (pc + 3) L st) : ch_W X E nL S μ kc ks pc L (.int x :: .ref (S.1 k 3 i) :: st) :=
  ca_puti (ci := 2) (j := 4) (ty := .int) h rfl rfl li_X2 tyX2 tyX2_ok nmX2 rfl hv (by decide) rfl kw_186 rfl (by decide +kernel) rfl rfl (fun z => absurd z (by decide)) hd kk
theorem gi_X3_134 {X : ch_X} {E : ch_E} {cc : ByteArray} {nL : Nat} {S : ch_S} {μ : ch_M} {kc ks pc : Nat} {L : List (Nat × Value)} {st : List Value} (h : ch_H X E RX3 cc nL) {k i : Nat} (hv : S.2.1 k 3 i) (hd : decode cc pc = .ok (.getfield 134, 3)) (kk : ch_W X E nL S μ kc ks (pc + 3) L (.int (μ k 3 i 5) :: st)) : ch_W X E nL S μ kc ks pc L (.ref (S.1 k 3 i) :: st) :=
  ca_geti (ci := 2) (j := 5) h rfl rfl li_X2 rfl hv (by decide) rfl kw_192 hd kk
theorem pi_X3_134 {X : ch_X} {E : ch_E} {cc : ByteArray} {nL : Nat} {S : ch_S} {μ : ch_M} {kc ks pc : Nat} {L : List (Nat × Value)} {st : List Value} (h : ch_H X E RX3 cc nL) {k i : Nat} {x : Int32} (hv : S.2.1 k 3 i) (hd : decode cc pc = .ok (.putfield 134, 3)) (kk : ch_W X E nL S (ch_st μ k 3 i 5 x) kc ks (pc + 3) L st) : ch_W X E nL S μ kc ks pc L (.int x :: .ref (S.1 k 3 i) :: st) :=
  ca_puti (ci := 2) (j := 5) (ty := .int) h rfl rfl li_X2 tyX2 tyX2_ok nmX2 rfl hv (by decide) rfl kw_192 rfl (by decide +kernel) rfl rfl (fun z => absurd z (by decide)) hd kk
theorem gi_X3_141 {X : ch_X} {E : ch_E} {cc : ByteArray} {nL : Nat} {S : ch_S} {μ : ch_M} {kc ks pc : Nat} {L : List (Nat × Value)} {st : List Value} (h : ch_H X E RX3 cc nL) {k i : Nat} (hv : S.2.1 k 1 i) (hd : decode cc pc = .ok (.getfield 141, 3)) (kk : ch_W X E nL S μ kc ks (pc + 3) L (.int (μ k 1 i 4) :: st)) : ch_W X E nL S μ kc ks pc L (.ref (S.1 k 1 i) :: st) :=
  ca_geti (ci := 0) (j := 4) h rfl rfl li_X0 rfl hv (by decide) rfl kw_97 hd kk
theorem pi_X3_141 {X : ch_X} {E : ch_E} {cc : ByteArray} {nL : Nat} {S : ch_S} {μ : ch_M} {kc ks pc : Nat} {L : List (Nat × Value)} {st : List Value} (h : ch_H X E RX3 cc nL) {k i : Nat} {x : Int32} (hv : S.2.1 k 1 i) (hd : decode cc pc = .ok (.putfield 141, 3)) (kk : ch_W X E nL S (ch_st μ k 1 i 4 x) kc ks (pc + 3) L st) : ch_W X E nL S μ kc ks pc L (.int x :: .ref (S.1 k 1 i) :: st) :=
  ca_puti (ci := 0) (j := 4) (ty := .int) h rfl rfl li_X0 tyX0 tyX0_ok nmX0 rfl hv (by decide) rfl kw_97 rfl (by decide +kernel) rfl rfl (fun z => absurd z (by decide)) hd kk
theorem gi_X3_144 {X : ch_X} {E : ch_E} {cc : ByteArray} {nL : Nat} {S : ch_S} {μ : ch_M} {kc ks pc : Nat} {L : List (Nat × Value)} {st : List Value} (h : ch_H X E RX3 cc nL) {k i : Nat} (hv : S.2.1 k 3 i) (hd : decode cc pc = .ok (.getfield 144, 3)) (kk : ch_W X E nL S μ kc ks (pc + 3) L (.int (μ k 3 i 8) :: st)) : ch_W X E nL S μ kc ks pc L (.ref (S.1 k 3 i) :: st) :=
  ca_geti (ci := 2) (j := 8) h rfl rfl li_X2 rfl hv (by decide) rfl kw_205 hd kk
theorem pi_X3_144 {X : ch_X} {E : ch_E} {cc : ByteArray} {nL : Nat} {S : ch_S} {μ : ch_M} {kc ks pc : Nat} {L : List (Nat × Value)} {st : List Value} (h : ch_H X E RX3 cc nL) {k i : Nat} {x : Int32} (hv : S.2.1 k 3 i) (hd : decode cc pc = .ok (.putfield 144, 3)) (kk : ch_W X E nL S (ch_st μ k 3 i 8 x) kc ks (pc + 3) L st) : ch_W X E nL S μ kc ks pc L (.int x :: .ref (S.1 k 3 i) :: st) :=
  ca_puti (ci := 2) (j := 8) (ty := .int) h rfl rfl li_X2 tyX2 tyX2_ok nmX2 rfl hv (by decide) rfl kw_205 rfl (by decide +kernel) rfl rfl (fun z => absurd z (by decide)) hd kk
theorem gi_X3_150 {X : ch_X} {E : ch_E} {cc : ByteArray} {nL : Nat} {S : ch_S} {μ : ch_M} {kc ks pc : Nat} {L : List (Nat × Value)} {st : List Value} (h : ch_H X E RX3 cc nL) {k i : Nat} (hv : S.2.1 k 1 i) (hd : decode cc pc = .ok (.getfield 150, 3)) (kk : ch_W X E nL S μ kc ks (pc + 3) L (.int (μ k 1 i 5) :: st)) : ch_W X E nL S μ kc ks pc L (.ref (S.1 k 1 i) :: st) :=
  ca_geti (ci := 0) (j := 5) h rfl rfl li_X0 rfl hv (by decide) rfl kw_100 hd kk
theorem pi_X3_150 {X : ch_X} {E : ch_E} {cc : ByteArray} {nL : Nat} {S : ch_S} {μ : ch_M} {kc ks pc : Nat} {L : List (Nat × Value)} {st : List Value} (h : ch_H X E RX3 cc nL) {k i : Nat} {x : Int32} (hv : S.2.1 k 1 i) (hd : decode cc pc = .ok (.putfield 150, 3)) (kk : ch_W X E nL S (ch_st μ k 1 i 5 x) kc ks (pc + 3) L st) : ch_W X E nL S μ kc ks pc L (.int x :: .ref (S.1 k 1 i) :: st) :=
  ca_puti (ci := 0) (j := 5) (ty := .int) h rfl rfl li_X0 tyX0 tyX0_ok nmX0 rfl hv (by decide) rfl kw_100 rfl (by decide +kernel) rfl rfl (fun z => absurd z (by decide)) hd kk
theorem gi_X3_160 {X : ch_X} {E : ch_E} {cc : ByteArray} {nL : Nat} {S : ch_S} {μ : ch_M} {kc ks pc : Nat} {L : List (Nat × Value)} {st : List Value} (h : ch_H X E RX3 cc nL) {k i : Nat} (hv : S.2.1 k 3 i) (hd : decode cc pc = .ok (.getfield 160, 3)) (kk : ch_W X E nL S μ kc ks (pc + 3) L (.int (μ k 3 i 9) :: st)) : ch_W X E nL S μ kc ks pc L (.ref (S.1 k 3 i) :: st) :=
  ca_geti (ci := 2) (j := 9) h rfl rfl li_X2 rfl hv (by decide) rfl kw_209 hd kk
theorem pi_X3_160 {X : ch_X} {E : ch_E} {cc : ByteArray} {nL : Nat} {S : ch_S} {μ : ch_M} {kc ks pc : Nat} {L : List (Nat × Value)} {st : List Value} (h : ch_H X E RX3 cc nL) {k i : Nat} {x : Int32} (hv : S.2.1 k 3 i) (hd : decode cc pc = .ok (.putfield 160, 3)) (kk : ch_W X E nL S (ch_st μ k 3 i 9 x) kc ks (pc + 3) L st) : ch_W X E nL S μ kc ks pc L (.int x :: .ref (S.1 k 3 i) :: st) :=
  ca_puti (ci := 2) (j := 9) (ty := .int) h rfl rfl li_X2 tyX2 tyX2_ok nmX2 rfl hv (by decide) rfl kw_209 rfl (by decide +kernel) rfl rfl (fun z => absurd z (by decide)) hd kk
theorem gi_X3_167 {X : ch_X} {E : ch_E} {cc : ByteArray} {nL : Nat} {S : ch_S} {μ : ch_M} {kc ks pc : Nat} {L : List (Nat × Value)} {st : List Value} (h : ch_H X E RX3 cc nL) {k i : Nat} (hv : S.2.1 k 3 i) (hd : decode cc pc = .ok (.getfield 167, 3)) (kk : ch_W X E nL S μ kc ks (pc + 3) L (.int (μ k 3 i 0) :: st)) : ch_W X E nL S μ kc ks pc L (.ref (S.1 k 3 i) :: st) :=
  ca_geti (ci := 2) (j := 0) h rfl rfl li_X2 rfl hv (by decide) rfl kw_171 hd kk
theorem pi_X3_167 {X : ch_X} {E : ch_E} {cc : ByteArray} {nL : Nat} {S : ch_S} {μ : ch_M} {kc ks pc : Nat} {L : List (Nat × Value)} {st : List Value} (h : ch_H X E RX3 cc nL) {k i : Nat} {x : Int32} (hv : S.2.1 k 3 i) (hd : decode cc pc = .ok (.putfield 167, 3)) (kk : ch_W X E nL S (ch_st μ k 3 i 0 x) kc ks (pc + 3) L st) : ch_W X E nL S μ kc ks pc L (.int x :: .ref (S.1 k 3 i) :: st) :=
  ca_puti (ci := 2) (j := 0) (ty := .int) h rfl rfl li_X2 tyX2 tyX2_ok nmX2 rfl hv (by decide) rfl kw_171 rfl (by decide +kernel) rfl rfl (fun z => absurd z (by decide)) hd kk
theorem gi_X3_170 {X : ch_X} {E : ch_E} {cc : ByteArray} {nL : Nat} {S : ch_S} {μ : ch_M} {kc ks pc : Nat} {L : List (Nat × Value)} {st : List Value} (h : ch_H X E RX3 cc nL) {k i : Nat} (hv : S.2.1 k 3 i) (hd : decode cc pc = .ok (.getfield 170, 3)) (kk : ch_W X E nL S μ kc ks (pc + 3) L (.int (μ k 3 i 1) :: st)) : ch_W X E nL S μ kc ks pc L (.ref (S.1 k 3 i) :: st) :=
  ca_geti (ci := 2) (j := 1) h rfl rfl li_X2 rfl hv (by decide) rfl kw_176 hd kk
theorem pi_X3_170 {X : ch_X} {E : ch_E} {cc : ByteArray} {nL : Nat} {S : ch_S} {μ : ch_M} {kc ks pc : Nat} {L : List (Nat × Value)} {st : List Value} (h : ch_H X E RX3 cc nL) {k i : Nat} {x : Int32} (hv : S.2.1 k 3 i) (hd : decode cc pc = .ok (.putfield 170, 3)) (kk : ch_W X E nL S (ch_st μ k 3 i 1 x) kc ks (pc + 3) L st) : ch_W X E nL S μ kc ks pc L (.int x :: .ref (S.1 k 3 i) :: st) :=
  ca_puti (ci := 2) (j := 1) (ty := .int) h rfl rfl li_X2 tyX2 tyX2_ok nmX2 rfl hv (by decide) rfl kw_176 rfl (by decide +kernel) rfl rfl (fun z => absurd z (by decide)) hd kk
theorem gi_X3_181 {X : ch_X} {E : ch_E} {cc : ByteArray} {nL : Nat} {S : ch_S} {μ : ch_M} {kc ks pc : Nat} {L : List (Nat × Value)} {st : List Value} (h : ch_H X E RX3 cc nL) {k i : Nat} (hv : S.2.1 k 3 i) (hd : decode cc pc = .ok (.getfield 181, 3)) (kk : ch_W X E nL S μ kc ks (pc + 3) L (.int (μ k 3 i 6) :: st)) : ch_W X E nL S μ kc ks pc L (.ref (S.1 k 3 i) :: st) :=
  ca_geti (ci := 2) (j := 6) h rfl rfl li_X2 rfl hv (by decide) rfl kw_197 hd kk
theorem pi_X3_181 {X : ch_X} {E : ch_E} {cc : ByteArray} {nL : Nat} {S : ch_S} {μ : ch_M} {kc ks pc : Nat} {L : List (Nat × Value)} {st : List Value} (h : ch_H X E RX3 cc nL) {k i : Nat} {x : Int32} (hv : S.2.1 k 3 i) (hd : decode cc pc = .ok (.putfield 181, 3)) (kk : ch_W X E nL S (ch_st μ k 3 i 6 x) kc ks (pc + 3) L st) : ch_W X E nL S μ kc ks pc L (.int x :: .ref (S.1 k 3 i) :: st) :=
  ca_puti (ci := 2) (j := 6) (ty := .int) h rfl rfl li_X2 tyX2 tyX2_ok nmX2 rfl hv (by decide) rfl kw_197 rfl (by decide +kernel) rfl rfl (fun z => absurd z (by decide)) hd kk
theorem gi_X3_194 {X : ch_X} {E : ch_E} {cc : ByteArray} {nL : Nat} {S : ch_S} {μ : ch_M} {kc ks pc : Nat} {L : List (Nat × Value)} {st : List Value} (h : ch_H X E RX3 cc nL) {k i : Nat} (hv : S.2.1 k 2 i) (hd : decode cc pc = .ok (.getfield 194, 3)) (kk : ch_W X E nL S μ kc ks (pc + 3) L (.int (μ k 2 i 0) :: st)) : ch_W X E nL S μ kc ks pc L (.ref (S.1 k 2 i) :: st) :=
  ca_geti (ci := 7) (j := 0) h rfl rfl li_X7 rfl hv (by decide) rfl kw_142 hd kk
theorem pi_X3_194 {X : ch_X} {E : ch_E} {cc : ByteArray} {nL : Nat} {S : ch_S} {μ : ch_M} {kc ks pc : Nat} {L : List (Nat × Value)} {st : List Value} (h : ch_H X E RX3 cc nL) {k i : Nat} {x : Int32} (hv : S.2.1 k 2 i) (hx : x = 0 ∨ x = 1) (hd : decode cc pc = .ok (.putfield 194, 3)) (kk : ch_W X E nL S (ch_st μ k 2 i 0 x) kc ks (pc + 3) L st) : ch_W X E nL S μ kc ks pc L (.int x :: .ref (S.1 k 2 i) :: st) :=
  ca_puti (ci := 7) (j := 0) (ty := .boolean) h rfl rfl li_X7 tyX7 tyX7_ok nmX7 rfl hv (by decide) rfl kw_142 rfl (by decide +kernel) (by rcases hx with rfl | rfl <;> decide) (by rcases hx with rfl | rfl <;> decide) (fun _ => hx) hd kk
theorem gi_X3_204 {X : ch_X} {E : ch_E} {cc : ByteArray} {nL : Nat} {S : ch_S} {μ : ch_M} {kc ks pc : Nat} {L : List (Nat × Value)} {st : List Value} (h : ch_H X E RX3 cc nL) {k i : Nat} (hv : S.2.1 k 3 i) (hd : decode cc pc = .ok (.getfield 204, 3)) (kk : ch_W X E nL S μ kc ks (pc + 3) L (.int (μ k 3 i 7) :: st)) : ch_W X E nL S μ kc ks pc L (.ref (S.1 k 3 i) :: st) :=
  ca_geti (ci := 2) (j := 7) h rfl rfl li_X2 rfl hv (by decide) rfl kw_201 hd kk
theorem pi_X3_204 {X : ch_X} {E : ch_E} {cc : ByteArray} {nL : Nat} {S : ch_S} {μ : ch_M} {kc ks pc : Nat} {L : List (Nat × Value)} {st : List Value} (h : ch_H X E RX3 cc nL) {k i : Nat} {x : Int32} (hv : S.2.1 k 3 i) (hd : decode cc pc = .ok (.putfield 204, 3)) (kk : ch_W X E nL S (ch_st μ k 3 i 7 x) kc ks (pc + 3) L st) : ch_W X E nL S μ kc ks pc L (.int x :: .ref (S.1 k 3 i) :: st) :=
  ca_puti (ci := 2) (j := 7) (ty := .int) h rfl rfl li_X2 tyX2 tyX2_ok nmX2 rfl hv (by decide) rfl kw_201 rfl (by decide +kernel) rfl rfl (fun z => absurd z (by decide)) hd kk
theorem gi_X3_207 {X : ch_X} {E : ch_E} {cc : ByteArray} {nL : Nat} {S : ch_S} {μ : ch_M} {kc ks pc : Nat} {L : List (Nat × Value)} {st : List Value} (h : ch_H X E RX3 cc nL) {k i : Nat} (hv : S.2.1 k 2 i) (hd : decode cc pc = .ok (.getfield 207, 3)) (kk : ch_W X E nL S μ kc ks (pc + 3) L (.int (μ k 2 i 2) :: st)) : ch_W X E nL S μ kc ks pc L (.ref (S.1 k 2 i) :: st) :=
  ca_geti (ci := 7) (j := 2) h rfl rfl li_X7 rfl hv (by decide) rfl kw_148 hd kk
theorem pi_X3_207 {X : ch_X} {E : ch_E} {cc : ByteArray} {nL : Nat} {S : ch_S} {μ : ch_M} {kc ks pc : Nat} {L : List (Nat × Value)} {st : List Value} (h : ch_H X E RX3 cc nL) {k i : Nat} {x : Int32} (hv : S.2.1 k 2 i) (hd : decode cc pc = .ok (.putfield 207, 3)) (kk : ch_W X E nL S (ch_st μ k 2 i 2 x) kc ks (pc + 3) L st) : ch_W X E nL S μ kc ks pc L (.int x :: .ref (S.1 k 2 i) :: st) :=
  ca_puti (ci := 7) (j := 2) (ty := .int) h rfl rfl li_X7 tyX7 tyX7_ok nmX7 rfl hv (by decide) rfl kw_148 rfl (by decide +kernel) rfl rfl (fun z => absurd z (by decide)) hd kk
theorem gr_X4_9 {X : ch_X} {E : ch_E} {cc : ByteArray} {nL : Nat} {S : ch_S} {μ : ch_M} {kc ks pc : Nat} {L : List (Nat × Value)} {st : List Value} (h : ch_H X E RX4 cc nL) {k i : Nat} {r : Option Nat} (hv : S.2.1 k 35 i) (hx : S.2.2 k 35 i 0 = r) (hd : decode cc pc = .ok (.getfield 9, 3)) (kk : ch_W X E nL S μ kc ks (pc + 3) L (va_rf r :: st)) : ch_W X E nL S μ kc ks pc L (.ref (S.1 k 35 i) :: st) :=
  ca_getr (ci := 4) (j := 0) h rfl rfl li_X4 rfl hv (by decide) rfl kw_605 hx hd kk
theorem gr_X4_15 {X : ch_X} {E : ch_E} {cc : ByteArray} {nL : Nat} {S : ch_S} {μ : ch_M} {kc ks pc : Nat} {L : List (Nat × Value)} {st : List Value} (h : ch_H X E RX4 cc nL) {k i : Nat} {r : Option Nat} (hv : S.2.1 k 35 i) (hx : S.2.2 k 35 i 1 = r) (hd : decode cc pc = .ok (.getfield 15, 3)) (kk : ch_W X E nL S μ kc ks (pc + 3) L (va_rf r :: st)) : ch_W X E nL S μ kc ks pc L (.ref (S.1 k 35 i) :: st) :=
  ca_getr (ci := 4) (j := 1) h rfl rfl li_X4 rfl hv (by decide) rfl kw_606 hx hd kk
theorem gi_X4_62 {X : ch_X} {E : ch_E} {cc : ByteArray} {nL : Nat} {S : ch_S} {μ : ch_M} {kc ks pc : Nat} {L : List (Nat × Value)} {st : List Value} (h : ch_H X E RX4 cc nL) {k i : Nat} (hv : S.2.1 k 0 i) (hd : decode cc pc = .ok (.getfield 62, 3)) (kk : ch_W X E nL S μ kc ks (pc + 3) L (.int (μ k 0 i 0) :: st)) : ch_W X E nL S μ kc ks pc L (.ref (S.1 k 0 i) :: st) :=
  ca_geti (ci := 3) (j := 0) h rfl rfl li_X3 rfl hv (by decide) rfl kw_247 hd kk
theorem pi_X4_62 {X : ch_X} {E : ch_E} {cc : ByteArray} {nL : Nat} {S : ch_S} {μ : ch_M} {kc ks pc : Nat} {L : List (Nat × Value)} {st : List Value} (h : ch_H X E RX4 cc nL) {k i : Nat} {x : Int32} (hv : S.2.1 k 0 i) (hd : decode cc pc = .ok (.putfield 62, 3)) (kk : ch_W X E nL S (ch_st μ k 0 i 0 x) kc ks (pc + 3) L st) : ch_W X E nL S μ kc ks pc L (.int x :: .ref (S.1 k 0 i) :: st) :=
  ca_puti (ci := 3) (j := 0) (ty := .int) h rfl rfl li_X3 tyX3 tyX3_ok nmX3 rfl hv (by decide) rfl kw_247 rfl (by decide +kernel) rfl rfl (fun z => absurd z (by decide)) hd kk
theorem gi_X4_77 {X : ch_X} {E : ch_E} {cc : ByteArray} {nL : Nat} {S : ch_S} {μ : ch_M} {kc ks pc : Nat} {L : List (Nat × Value)} {st : List Value} (h : ch_H X E RX4 cc nL) {k i : Nat} (hv : S.2.1 k 1 i) (hd : decode cc pc = .ok (.getfield 77, 3)) (kk : ch_W X E nL S μ kc ks (pc + 3) L (.int (μ k 1 i 0) :: st)) : ch_W X E nL S μ kc ks pc L (.ref (S.1 k 1 i) :: st) :=
  ca_geti (ci := 0) (j := 0) h rfl rfl li_X0 rfl hv (by decide) rfl kw_88 hd kk
theorem pi_X4_77 {X : ch_X} {E : ch_E} {cc : ByteArray} {nL : Nat} {S : ch_S} {μ : ch_M} {kc ks pc : Nat} {L : List (Nat × Value)} {st : List Value} (h : ch_H X E RX4 cc nL) {k i : Nat} {x : Int32} (hv : S.2.1 k 1 i) (hd : decode cc pc = .ok (.putfield 77, 3)) (kk : ch_W X E nL S (ch_st μ k 1 i 0 x) kc ks (pc + 3) L st) : ch_W X E nL S μ kc ks pc L (.int x :: .ref (S.1 k 1 i) :: st) :=
  ca_puti (ci := 0) (j := 0) (ty := .int) h rfl rfl li_X0 tyX0 tyX0_ok nmX0 rfl hv (by decide) rfl kw_88 rfl (by decide +kernel) rfl rfl (fun z => absurd z (by decide)) hd kk
theorem gi_X4_82 {X : ch_X} {E : ch_E} {cc : ByteArray} {nL : Nat} {S : ch_S} {μ : ch_M} {kc ks pc : Nat} {L : List (Nat × Value)} {st : List Value} (h : ch_H X E RX4 cc nL) {k i : Nat} (hv : S.2.1 k 1 i) (hd : decode cc pc = .ok (.getfield 82, 3)) (kk : ch_W X E nL S μ kc ks (pc + 3) L (.int (μ k 1 i 1) :: st)) : ch_W X E nL S μ kc ks pc L (.ref (S.1 k 1 i) :: st) :=
  ca_geti (ci := 0) (j := 1) h rfl rfl li_X0 rfl hv (by decide) rfl kw_90 hd kk
theorem pi_X4_82 {X : ch_X} {E : ch_E} {cc : ByteArray} {nL : Nat} {S : ch_S} {μ : ch_M} {kc ks pc : Nat} {L : List (Nat × Value)} {st : List Value} (h : ch_H X E RX4 cc nL) {k i : Nat} {x : Int32} (hv : S.2.1 k 1 i) (hd : decode cc pc = .ok (.putfield 82, 3)) (kk : ch_W X E nL S (ch_st μ k 1 i 1 x) kc ks (pc + 3) L st) : ch_W X E nL S μ kc ks pc L (.int x :: .ref (S.1 k 1 i) :: st) :=
  ca_puti (ci := 0) (j := 1) (ty := .int) h rfl rfl li_X0 tyX0 tyX0_ok nmX0 rfl hv (by decide) rfl kw_90 rfl (by decide +kernel) rfl rfl (fun z => absurd z (by decide)) hd kk
theorem gi_X4_85 {X : ch_X} {E : ch_E} {cc : ByteArray} {nL : Nat} {S : ch_S} {μ : ch_M} {kc ks pc : Nat} {L : List (Nat × Value)} {st : List Value} (h : ch_H X E RX4 cc nL) {k i : Nat} (hv : S.2.1 k 1 i) (hd : decode cc pc = .ok (.getfield 85, 3)) (kk : ch_W X E nL S μ kc ks (pc + 3) L (.int (μ k 1 i 2) :: st)) : ch_W X E nL S μ kc ks pc L (.ref (S.1 k 1 i) :: st) :=
  ca_geti (ci := 0) (j := 2) h rfl rfl li_X0 rfl hv (by decide) rfl kw_92 hd kk
theorem pi_X4_85 {X : ch_X} {E : ch_E} {cc : ByteArray} {nL : Nat} {S : ch_S} {μ : ch_M} {kc ks pc : Nat} {L : List (Nat × Value)} {st : List Value} (h : ch_H X E RX4 cc nL) {k i : Nat} {x : Int32} (hv : S.2.1 k 1 i) (hd : decode cc pc = .ok (.putfield 85, 3)) (kk : ch_W X E nL S (ch_st μ k 1 i 2 x) kc ks (pc + 3) L st) : ch_W X E nL S μ kc ks pc L (.int x :: .ref (S.1 k 1 i) :: st) :=
  ca_puti (ci := 0) (j := 2) (ty := .int) h rfl rfl li_X0 tyX0 tyX0_ok nmX0 rfl hv (by decide) rfl kw_92 rfl (by decide +kernel) rfl rfl (fun z => absurd z (by decide)) hd kk
theorem gi_X4_88 {X : ch_X} {E : ch_E} {cc : ByteArray} {nL : Nat} {S : ch_S} {μ : ch_M} {kc ks pc : Nat} {L : List (Nat × Value)} {st : List Value} (h : ch_H X E RX4 cc nL) {k i : Nat} (hv : S.2.1 k 1 i) (hd : decode cc pc = .ok (.getfield 88, 3)) (kk : ch_W X E nL S μ kc ks (pc + 3) L (.int (μ k 1 i 3) :: st)) : ch_W X E nL S μ kc ks pc L (.ref (S.1 k 1 i) :: st) :=
  ca_geti (ci := 0) (j := 3) h rfl rfl li_X0 rfl hv (by decide) rfl kw_94 hd kk
theorem pi_X4_88 {X : ch_X} {E : ch_E} {cc : ByteArray} {nL : Nat} {S : ch_S} {μ : ch_M} {kc ks pc : Nat} {L : List (Nat × Value)} {st : List Value} (h : ch_H X E RX4 cc nL) {k i : Nat} {x : Int32} (hv : S.2.1 k 1 i) (hd : decode cc pc = .ok (.putfield 88, 3)) (kk : ch_W X E nL S (ch_st μ k 1 i 3 x) kc ks (pc + 3) L st) : ch_W X E nL S μ kc ks pc L (.int x :: .ref (S.1 k 1 i) :: st) :=
  ca_puti (ci := 0) (j := 3) (ty := .int) h rfl rfl li_X0 tyX0 tyX0_ok nmX0 rfl hv (by decide) rfl kw_94 rfl (by decide +kernel) rfl rfl (fun z => absurd z (by decide)) hd kk
theorem gi_X4_91 {X : ch_X} {E : ch_E} {cc : ByteArray} {nL : Nat} {S : ch_S} {μ : ch_M} {kc ks pc : Nat} {L : List (Nat × Value)} {st : List Value} (h : ch_H X E RX4 cc nL) {k i : Nat} (hv : S.2.1 k 1 i) (hd : decode cc pc = .ok (.getfield 91, 3)) (kk : ch_W X E nL S μ kc ks (pc + 3) L (.int (μ k 1 i 4) :: st)) : ch_W X E nL S μ kc ks pc L (.ref (S.1 k 1 i) :: st) :=
  ca_geti (ci := 0) (j := 4) h rfl rfl li_X0 rfl hv (by decide) rfl kw_96 hd kk
theorem pi_X4_91 {X : ch_X} {E : ch_E} {cc : ByteArray} {nL : Nat} {S : ch_S} {μ : ch_M} {kc ks pc : Nat} {L : List (Nat × Value)} {st : List Value} (h : ch_H X E RX4 cc nL) {k i : Nat} {x : Int32} (hv : S.2.1 k 1 i) (hd : decode cc pc = .ok (.putfield 91, 3)) (kk : ch_W X E nL S (ch_st μ k 1 i 4 x) kc ks (pc + 3) L st) : ch_W X E nL S μ kc ks pc L (.int x :: .ref (S.1 k 1 i) :: st) :=
  ca_puti (ci := 0) (j := 4) (ty := .int) h rfl rfl li_X0 tyX0 tyX0_ok nmX0 rfl hv (by decide) rfl kw_96 rfl (by decide +kernel) rfl rfl (fun z => absurd z (by decide)) hd kk
theorem gi_X4_94 {X : ch_X} {E : ch_E} {cc : ByteArray} {nL : Nat} {S : ch_S} {μ : ch_M} {kc ks pc : Nat} {L : List (Nat × Value)} {st : List Value} (h : ch_H X E RX4 cc nL) {k i : Nat} (hv : S.2.1 k 1 i) (hd : decode cc pc = .ok (.getfield 94, 3)) (kk : ch_W X E nL S μ kc ks (pc + 3) L (.int (μ k 1 i 5) :: st)) : ch_W X E nL S μ kc ks pc L (.ref (S.1 k 1 i) :: st) :=
  ca_geti (ci := 0) (j := 5) h rfl rfl li_X0 rfl hv (by decide) rfl kw_99 hd kk
theorem pi_X4_94 {X : ch_X} {E : ch_E} {cc : ByteArray} {nL : Nat} {S : ch_S} {μ : ch_M} {kc ks pc : Nat} {L : List (Nat × Value)} {st : List Value} (h : ch_H X E RX4 cc nL) {k i : Nat} {x : Int32} (hv : S.2.1 k 1 i) (hd : decode cc pc = .ok (.putfield 94, 3)) (kk : ch_W X E nL S (ch_st μ k 1 i 5 x) kc ks (pc + 3) L st) : ch_W X E nL S μ kc ks pc L (.int x :: .ref (S.1 k 1 i) :: st) :=
  ca_puti (ci := 0) (j := 5) (ty := .int) h rfl rfl li_X0 tyX0 tyX0_ok nmX0 rfl hv (by decide) rfl kw_99 rfl (by decide +kernel) rfl rfl (fun z => absurd z (by decide)) hd kk
theorem gi_X4_97 {X : ch_X} {E : ch_E} {cc : ByteArray} {nL : Nat} {S : ch_S} {μ : ch_M} {kc ks pc : Nat} {L : List (Nat × Value)} {st : List Value} (h : ch_H X E RX4 cc nL) {k i : Nat} (hv : S.2.1 k 1 i) (hd : decode cc pc = .ok (.getfield 97, 3)) (kk : ch_W X E nL S μ kc ks (pc + 3) L (.int (μ k 1 i 6) :: st)) : ch_W X E nL S μ kc ks pc L (.ref (S.1 k 1 i) :: st) :=
  ca_geti (ci := 0) (j := 6) h rfl rfl li_X0 rfl hv (by decide) rfl kw_103 hd kk
theorem pi_X4_97 {X : ch_X} {E : ch_E} {cc : ByteArray} {nL : Nat} {S : ch_S} {μ : ch_M} {kc ks pc : Nat} {L : List (Nat × Value)} {st : List Value} (h : ch_H X E RX4 cc nL) {k i : Nat} {x : Int32} (hv : S.2.1 k 1 i) (hd : decode cc pc = .ok (.putfield 97, 3)) (kk : ch_W X E nL S (ch_st μ k 1 i 6 x) kc ks (pc + 3) L st) : ch_W X E nL S μ kc ks pc L (.int x :: .ref (S.1 k 1 i) :: st) :=
  ca_puti (ci := 0) (j := 6) (ty := .int) h rfl rfl li_X0 tyX0 tyX0_ok nmX0 rfl hv (by decide) rfl kw_103 rfl (by decide +kernel) rfl rfl (fun z => absurd z (by decide)) hd kk
theorem gi_X4_100 {X : ch_X} {E : ch_E} {cc : ByteArray} {nL : Nat} {S : ch_S} {μ : ch_M} {kc ks pc : Nat} {L : List (Nat × Value)} {st : List Value} (h : ch_H X E RX4 cc nL) {k i : Nat} (hv : S.2.1 k 1 i) (hd : decode cc pc = .ok (.getfield 100, 3)) (kk : ch_W X E nL S μ kc ks (pc + 3) L (.int (μ k 1 i 7) :: st)) : ch_W X E nL S μ kc ks pc L (.ref (S.1 k 1 i) :: st) :=
  ca_geti (ci := 0) (j := 7) h rfl rfl li_X0 rfl hv (by decide) rfl kw_107 hd kk
theorem pi_X4_100 {X : ch_X} {E : ch_E} {cc : ByteArray} {nL : Nat} {S : ch_S} {μ : ch_M} {kc ks pc : Nat} {L : List (Nat × Value)} {st : List Value} (h : ch_H X E RX4 cc nL) {k i : Nat} {x : Int32} (hv : S.2.1 k 1 i) (hd : decode cc pc = .ok (.putfield 100, 3)) (kk : ch_W X E nL S (ch_st μ k 1 i 7 x) kc ks (pc + 3) L st) : ch_W X E nL S μ kc ks pc L (.int x :: .ref (S.1 k 1 i) :: st) :=
  ca_puti (ci := 0) (j := 7) (ty := .int) h rfl rfl li_X0 tyX0 tyX0_ok nmX0 rfl hv (by decide) rfl kw_107 rfl (by decide +kernel) rfl rfl (fun z => absurd z (by decide)) hd kk
theorem gi_X4_103 {X : ch_X} {E : ch_E} {cc : ByteArray} {nL : Nat} {S : ch_S} {μ : ch_M} {kc ks pc : Nat} {L : List (Nat × Value)} {st : List Value} (h : ch_H X E RX4 cc nL) {k i : Nat} (hv : S.2.1 k 1 i) (hd : decode cc pc = .ok (.getfield 103, 3)) (kk : ch_W X E nL S μ kc ks (pc + 3) L (.int (μ k 1 i 8) :: st)) : ch_W X E nL S μ kc ks pc L (.ref (S.1 k 1 i) :: st) :=
  ca_geti (ci := 0) (j := 8) h rfl rfl li_X0 rfl hv (by decide) rfl kw_109 hd kk
theorem pi_X4_103 {X : ch_X} {E : ch_E} {cc : ByteArray} {nL : Nat} {S : ch_S} {μ : ch_M} {kc ks pc : Nat} {L : List (Nat × Value)} {st : List Value} (h : ch_H X E RX4 cc nL) {k i : Nat} {x : Int32} (hv : S.2.1 k 1 i) (hd : decode cc pc = .ok (.putfield 103, 3)) (kk : ch_W X E nL S (ch_st μ k 1 i 8 x) kc ks (pc + 3) L st) : ch_W X E nL S μ kc ks pc L (.int x :: .ref (S.1 k 1 i) :: st) :=
  ca_puti (ci := 0) (j := 8) (ty := .int) h rfl rfl li_X0 tyX0 tyX0_ok nmX0 rfl hv (by decide) rfl kw_109 rfl (by decide +kernel) rfl rfl (fun z => absurd z (by decide)) hd kk
theorem gi_X4_106 {X : ch_X} {E : ch_E} {cc : ByteArray} {nL : Nat} {S : ch_S} {μ : ch_M} {kc ks pc : Nat} {L : List (Nat × Value)} {st : List Value} (h : ch_H X E RX4 cc nL) {k i : Nat} (hv : S.2.1 k 0 i) (hd : decode cc pc = .ok (.getfield 106, 3)) (kk : ch_W X E nL S μ kc ks (pc + 3) L (.int (μ k 0 i 1) :: st)) : ch_W X E nL S μ kc ks pc L (.ref (S.1 k 0 i) :: st) :=
  ca_geti (ci := 3) (j := 1) h rfl rfl li_X3 rfl hv (by decide) rfl kw_250 hd kk
theorem pi_X4_106 {X : ch_X} {E : ch_E} {cc : ByteArray} {nL : Nat} {S : ch_S} {μ : ch_M} {kc ks pc : Nat} {L : List (Nat × Value)} {st : List Value} (h : ch_H X E RX4 cc nL) {k i : Nat} {x : Int32} (hv : S.2.1 k 0 i) (hd : decode cc pc = .ok (.putfield 106, 3)) (kk : ch_W X E nL S (ch_st μ k 0 i 1 x) kc ks (pc + 3) L st) : ch_W X E nL S μ kc ks pc L (.int x :: .ref (S.1 k 0 i) :: st) :=
  ca_puti (ci := 3) (j := 1) (ty := .int) h rfl rfl li_X3 tyX3 tyX3_ok nmX3 rfl hv (by decide) rfl kw_250 rfl (by decide +kernel) rfl rfl (fun z => absurd z (by decide)) hd kk
theorem gi_X4_116 {X : ch_X} {E : ch_E} {cc : ByteArray} {nL : Nat} {S : ch_S} {μ : ch_M} {kc ks pc : Nat} {L : List (Nat × Value)} {st : List Value} (h : ch_H X E RX4 cc nL) {k i : Nat} (hv : S.2.1 k 2 i) (hd : decode cc pc = .ok (.getfield 116, 3)) (kk : ch_W X E nL S μ kc ks (pc + 3) L (.int (μ k 2 i 0) :: st)) : ch_W X E nL S μ kc ks pc L (.ref (S.1 k 2 i) :: st) :=
  ca_geti (ci := 7) (j := 0) h rfl rfl li_X7 rfl hv (by decide) rfl kw_139 hd kk
theorem pi_X4_116 {X : ch_X} {E : ch_E} {cc : ByteArray} {nL : Nat} {S : ch_S} {μ : ch_M} {kc ks pc : Nat} {L : List (Nat × Value)} {st : List Value} (h : ch_H X E RX4 cc nL) {k i : Nat} {x : Int32} (hv : S.2.1 k 2 i) (hx : x = 0 ∨ x = 1) (hd : decode cc pc = .ok (.putfield 116, 3)) (kk : ch_W X E nL S (ch_st μ k 2 i 0 x) kc ks (pc + 3) L st) : ch_W X E nL S μ kc ks pc L (.int x :: .ref (S.1 k 2 i) :: st) :=
  ca_puti (ci := 7) (j := 0) (ty := .boolean) h rfl rfl li_X7 tyX7 tyX7_ok nmX7 rfl hv (by decide) rfl kw_139 rfl (by decide +kernel) (by rcases hx with rfl | rfl <;> decide) (by rcases hx with rfl | rfl <;> decide) (fun _ => hx) hd kk
theorem gi_X4_122 {X : ch_X} {E : ch_E} {cc : ByteArray} {nL : Nat} {S : ch_S} {μ : ch_M} {kc ks pc : Nat} {L : List (Nat × Value)} {st : List Value} (h : ch_H X E RX4 cc nL) {k i : Nat} (hv : S.2.1 k 2 i) (hd : decode cc pc = .ok (.getfield 122, 3)) (kk : ch_W X E nL S μ kc ks (pc + 3) L (.int (μ k 2 i 1) :: st)) : ch_W X E nL S μ kc ks pc L (.ref (S.1 k 2 i) :: st) :=
  ca_geti (ci := 7) (j := 1) h rfl rfl li_X7 rfl hv (by decide) rfl kw_145 hd kk
theorem pi_X4_122 {X : ch_X} {E : ch_E} {cc : ByteArray} {nL : Nat} {S : ch_S} {μ : ch_M} {kc ks pc : Nat} {L : List (Nat × Value)} {st : List Value} (h : ch_H X E RX4 cc nL) {k i : Nat} {x : Int32} (hv : S.2.1 k 2 i) (hd : decode cc pc = .ok (.putfield 122, 3)) (kk : ch_W X E nL S (ch_st μ k 2 i 1 x) kc ks (pc + 3) L st) : ch_W X E nL S μ kc ks pc L (.int x :: .ref (S.1 k 2 i) :: st) :=
  ca_puti (ci := 7) (j := 1) (ty := .int) h rfl rfl li_X7 tyX7 tyX7_ok nmX7 rfl hv (by decide) rfl kw_145 rfl (by decide +kernel) rfl rfl (fun z => absurd z (by decide)) hd kk
theorem gi_X4_125 {X : ch_X} {E : ch_E} {cc : ByteArray} {nL : Nat} {S : ch_S} {μ : ch_M} {kc ks pc : Nat} {L : List (Nat × Value)} {st : List Value} (h : ch_H X E RX4 cc nL) {k i : Nat} (hv : S.2.1 k 0 i) (hd : decode cc pc = .ok (.getfield 125, 3)) (kk : ch_W X E nL S μ kc ks (pc + 3) L (.int (μ k 0 i 4) :: st)) : ch_W X E nL S μ kc ks pc L (.ref (S.1 k 0 i) :: st) :=
  ca_geti (ci := 3) (j := 4) h rfl rfl li_X3 rfl hv (by decide) rfl kw_262 hd kk
theorem pi_X4_125 {X : ch_X} {E : ch_E} {cc : ByteArray} {nL : Nat} {S : ch_S} {μ : ch_M} {kc ks pc : Nat} {L : List (Nat × Value)} {st : List Value} (h : ch_H X E RX4 cc nL) {k i : Nat} {x : Int32} (hv : S.2.1 k 0 i) (hd : decode cc pc = .ok (.putfield 125, 3)) (kk : ch_W X E nL S (ch_st μ k 0 i 4 x) kc ks (pc + 3) L st) : ch_W X E nL S μ kc ks pc L (.int x :: .ref (S.1 k 0 i) :: st) :=
  ca_puti (ci := 3) (j := 4) (ty := .int) h rfl rfl li_X3 tyX3 tyX3_ok nmX3 rfl hv (by decide) rfl kw_262 rfl (by decide +kernel) rfl rfl (fun z => absurd z (by decide)) hd kk
theorem gi_X4_128 {X : ch_X} {E : ch_E} {cc : ByteArray} {nL : Nat} {S : ch_S} {μ : ch_M} {kc ks pc : Nat} {L : List (Nat × Value)} {st : List Value} (h : ch_H X E RX4 cc nL) {k i : Nat} (hv : S.2.1 k 0 i) (hd : decode cc pc = .ok (.getfield 128, 3)) (kk : ch_W X E nL S μ kc ks (pc + 3) L (.int (μ k 0 i 5) :: st)) : ch_W X E nL S μ kc ks pc L (.ref (S.1 k 0 i) :: st) :=
  ca_geti (ci := 3) (j := 5) h rfl rfl li_X3 rfl hv (by decide) rfl kw_266 hd kk
theorem pi_X4_128 {X : ch_X} {E : ch_E} {cc : ByteArray} {nL : Nat} {S : ch_S} {μ : ch_M} {kc ks pc : Nat} {L : List (Nat × Value)} {st : List Value} (h : ch_H X E RX4 cc nL) {k i : Nat} {x : Int32} (hv : S.2.1 k 0 i) (hd : decode cc pc = .ok (.putfield 128, 3)) (kk : ch_W X E nL S (ch_st μ k 0 i 5 x) kc ks (pc + 3) L st) : ch_W X E nL S μ kc ks pc L (.int x :: .ref (S.1 k 0 i) :: st) :=
  ca_puti (ci := 3) (j := 5) (ty := .int) h rfl rfl li_X3 tyX3 tyX3_ok nmX3 rfl hv (by decide) rfl kw_266 rfl (by decide +kernel) rfl rfl (fun z => absurd z (by decide)) hd kk
theorem gi_X4_131 {X : ch_X} {E : ch_E} {cc : ByteArray} {nL : Nat} {S : ch_S} {μ : ch_M} {kc ks pc : Nat} {L : List (Nat × Value)} {st : List Value} (h : ch_H X E RX4 cc nL) {k i : Nat} (hv : S.2.1 k 0 i) (hd : decode cc pc = .ok (.getfield 131, 3)) (kk : ch_W X E nL S μ kc ks (pc + 3) L (.int (μ k 0 i 6) :: st)) : ch_W X E nL S μ kc ks pc L (.ref (S.1 k 0 i) :: st) :=
  ca_geti (ci := 3) (j := 6) h rfl rfl li_X3 rfl hv (by decide) rfl kw_268 hd kk
theorem pi_X4_131 {X : ch_X} {E : ch_E} {cc : ByteArray} {nL : Nat} {S : ch_S} {μ : ch_M} {kc ks pc : Nat} {L : List (Nat × Value)} {st : List Value} (h : ch_H X E RX4 cc nL) {k i : Nat} {x : Int32} (hv : S.2.1 k 0 i) (hd : decode cc pc = .ok (.putfield 131, 3)) (kk : ch_W X E nL S (ch_st μ k 0 i 6 x) kc ks (pc + 3) L st) : ch_W X E nL S μ kc ks pc L (.int x :: .ref (S.1 k 0 i) :: st) :=
  ca_puti (ci := 3) (j := 6) (ty := .int) h rfl rfl li_X3 tyX3 tyX3_ok nmX3 rfl hv (by decide) rfl kw_268 rfl (by decide +kernel) rfl rfl (fun z => absurd z (by decide)) hd kk
theorem gi_X4_134 {X : ch_X} {E : ch_E} {cc : ByteArray} {nL : Nat} {S : ch_S} {μ : ch_M} {kc ks pc : Nat} {L : List (Nat × Value)} {st : List Value} (h : ch_H X E RX4 cc nL) {k i : Nat} (hv : S.2.1 k 0 i) (hd : decode cc pc = .ok (.getfield 134, 3)) (kk : ch_W X E nL S μ kc ks (pc + 3) L (.int (μ k 0 i 7) :: st)) : ch_W X E nL S μ kc ks pc L (.ref (S.1 k 0 i) :: st) :=
  ca_geti (ci := 3) (j := 7) h rfl rfl li_X3 rfl hv (by decide) rfl kw_270 hd kk
theorem pi_X4_134 {X : ch_X} {E : ch_E} {cc : ByteArray} {nL : Nat} {S : ch_S} {μ : ch_M} {kc ks pc : Nat} {L : List (Nat × Value)} {st : List Value} (h : ch_H X E RX4 cc nL) {k i : Nat} {x : Int32} (hv : S.2.1 k 0 i) (hd : decode cc pc = .ok (.putfield 134, 3)) (kk : ch_W X E nL S (ch_st μ k 0 i 7 x) kc ks (pc + 3) L st) : ch_W X E nL S μ kc ks pc L (.int x :: .ref (S.1 k 0 i) :: st) :=
  ca_puti (ci := 3) (j := 7) (ty := .int) h rfl rfl li_X3 tyX3 tyX3_ok nmX3 rfl hv (by decide) rfl kw_270 rfl (by decide +kernel) rfl rfl (fun z => absurd z (by decide)) hd kk
theorem gi_X4_137 {X : ch_X} {E : ch_E} {cc : ByteArray} {nL : Nat} {S : ch_S} {μ : ch_M} {kc ks pc : Nat} {L : List (Nat × Value)} {st : List Value} (h : ch_H X E RX4 cc nL) {k i : Nat} (hv : S.2.1 k 0 i) (hd : decode cc pc = .ok (.getfield 137, 3)) (kk : ch_W X E nL S μ kc ks (pc + 3) L (.int (μ k 0 i 8) :: st)) : ch_W X E nL S μ kc ks pc L (.ref (S.1 k 0 i) :: st) :=
  ca_geti (ci := 3) (j := 8) h rfl rfl li_X3 rfl hv (by decide) rfl kw_273 hd kk
theorem pi_X4_137 {X : ch_X} {E : ch_E} {cc : ByteArray} {nL : Nat} {S : ch_S} {μ : ch_M} {kc ks pc : Nat} {L : List (Nat × Value)} {st : List Value} (h : ch_H X E RX4 cc nL) {k i : Nat} {x : Int32} (hv : S.2.1 k 0 i) (hd : decode cc pc = .ok (.putfield 137, 3)) (kk : ch_W X E nL S (ch_st μ k 0 i 8 x) kc ks (pc + 3) L st) : ch_W X E nL S μ kc ks pc L (.int x :: .ref (S.1 k 0 i) :: st) :=
  ca_puti (ci := 3) (j := 8) (ty := .int) h rfl rfl li_X3 tyX3 tyX3_ok nmX3 rfl hv (by decide) rfl kw_273 rfl (by decide +kernel) rfl rfl (fun z => absurd z (by decide)) hd kk
theorem gi_X4_140 {X : ch_X} {E : ch_E} {cc : ByteArray} {nL : Nat} {S : ch_S} {μ : ch_M} {kc ks pc : Nat} {L : List (Nat × Value)} {st : List Value} (h : ch_H X E RX4 cc nL) {k i : Nat} (hv : S.2.1 k 0 i) (hd : decode cc pc = .ok (.getfield 140, 3)) (kk : ch_W X E nL S μ kc ks (pc + 3) L (.int (μ k 0 i 9) :: st)) : ch_W X E nL S μ kc ks pc L (.ref (S.1 k 0 i) :: st) :=
  ca_geti (ci := 3) (j := 9) h rfl rfl li_X3 rfl hv (by decide) rfl kw_276 hd kk
theorem pi_X4_140 {X : ch_X} {E : ch_E} {cc : ByteArray} {nL : Nat} {S : ch_S} {μ : ch_M} {kc ks pc : Nat} {L : List (Nat × Value)} {st : List Value} (h : ch_H X E RX4 cc nL) {k i : Nat} {x : Int32} (hv : S.2.1 k 0 i) (hd : decode cc pc = .ok (.putfield 140, 3)) (kk : ch_W X E nL S (ch_st μ k 0 i 9 x) kc ks (pc + 3) L st) : ch_W X E nL S μ kc ks pc L (.int x :: .ref (S.1 k 0 i) :: st) :=
  ca_puti (ci := 3) (j := 9) (ty := .int) h rfl rfl li_X3 tyX3 tyX3_ok nmX3 rfl hv (by decide) rfl kw_276 rfl (by decide +kernel) rfl rfl (fun z => absurd z (by decide)) hd kk
theorem gr_X5_9 {X : ch_X} {E : ch_E} {cc : ByteArray} {nL : Nat} {S : ch_S} {μ : ch_M} {kc ks pc : Nat} {L : List (Nat × Value)} {st : List Value} (h : ch_H X E RX5 cc nL) {k i : Nat} {r : Option Nat} (hv : S.2.1 k 36 i) (hx : S.2.2 k 36 i 0 = r) (hd : decode cc pc = .ok (.getfield 9, 3)) (kk : ch_W X E nL S μ kc ks (pc + 3) L (va_rf r :: st)) : ch_W X E nL S μ kc ks pc L (.ref (S.1 k 36 i) :: st) :=
  ca_getr (ci := 5) (j := 0) h rfl rfl li_X5 rfl hv (by decide) rfl kw_1223 hx hd kk
theorem gr_X5_15 {X : ch_X} {E : ch_E} {cc : ByteArray} {nL : Nat} {S : ch_S} {μ : ch_M} {kc ks pc : Nat} {L : List (Nat × Value)} {st : List Value} (h : ch_H X E RX5 cc nL) {k i : Nat} {r : Option Nat} (hv : S.2.1 k 36 i) (hx : S.2.2 k 36 i 1 = r) (hd : decode cc pc = .ok (.getfield 15, 3)) (kk : ch_W X E nL S μ kc ks (pc + 3) L (va_rf r :: st)) : ch_W X E nL S μ kc ks pc L (.ref (S.1 k 36 i) :: st) :=
  ca_getr (ci := 5) (j := 1) h rfl rfl li_X5 rfl hv (by decide) rfl kw_1224 hx hd kk
theorem gi_X5_85 {X : ch_X} {E : ch_E} {cc : ByteArray} {nL : Nat} {S : ch_S} {μ : ch_M} {kc ks pc : Nat} {L : List (Nat × Value)} {st : List Value} (h : ch_H X E RX5 cc nL) {k i : Nat} (hv : S.2.1 k 0 i) (hd : decode cc pc = .ok (.getfield 85, 3)) (kk : ch_W X E nL S μ kc ks (pc + 3) L (.int (μ k 0 i 2) :: st)) : ch_W X E nL S μ kc ks pc L (.ref (S.1 k 0 i) :: st) :=
  ca_geti (ci := 3) (j := 2) h rfl rfl li_X3 rfl hv (by decide) rfl kw_254 hd kk
theorem pi_X5_85 {X : ch_X} {E : ch_E} {cc : ByteArray} {nL : Nat} {S : ch_S} {μ : ch_M} {kc ks pc : Nat} {L : List (Nat × Value)} {st : List Value} (h : ch_H X E RX5 cc nL) {k i : Nat} {x : Int32} (hv : S.2.1 k 0 i) (hd : decode cc pc = .ok (.putfield 85, 3)) (kk : ch_W X E nL S (ch_st μ k 0 i 2 x) kc ks (pc + 3) L st) : ch_W X E nL S μ kc ks pc L (.int x :: .ref (S.1 k 0 i) :: st) :=
  ca_puti (ci := 3) (j := 2) (ty := .int) h rfl rfl li_X3 tyX3 tyX3_ok nmX3 rfl hv (by decide) rfl kw_254 rfl (by decide +kernel) rfl rfl (fun z => absurd z (by decide)) hd kk
theorem gi_X5_122 {X : ch_X} {E : ch_E} {cc : ByteArray} {nL : Nat} {S : ch_S} {μ : ch_M} {kc ks pc : Nat} {L : List (Nat × Value)} {st : List Value} (h : ch_H X E RX5 cc nL) {k i : Nat} (hv : S.2.1 k 3 i) (hd : decode cc pc = .ok (.getfield 122, 3)) (kk : ch_W X E nL S μ kc ks (pc + 3) L (.int (μ k 3 i 0) :: st)) : ch_W X E nL S μ kc ks pc L (.ref (S.1 k 3 i) :: st) :=
  ca_geti (ci := 2) (j := 0) h rfl rfl li_X2 rfl hv (by decide) rfl kw_169 hd kk
theorem pi_X5_122 {X : ch_X} {E : ch_E} {cc : ByteArray} {nL : Nat} {S : ch_S} {μ : ch_M} {kc ks pc : Nat} {L : List (Nat × Value)} {st : List Value} (h : ch_H X E RX5 cc nL) {k i : Nat} {x : Int32} (hv : S.2.1 k 3 i) (hd : decode cc pc = .ok (.putfield 122, 3)) (kk : ch_W X E nL S (ch_st μ k 3 i 0 x) kc ks (pc + 3) L st) : ch_W X E nL S μ kc ks pc L (.int x :: .ref (S.1 k 3 i) :: st) :=
  ca_puti (ci := 2) (j := 0) (ty := .int) h rfl rfl li_X2 tyX2 tyX2_ok nmX2 rfl hv (by decide) rfl kw_169 rfl (by decide +kernel) rfl rfl (fun z => absurd z (by decide)) hd kk
theorem gi_X5_126 {X : ch_X} {E : ch_E} {cc : ByteArray} {nL : Nat} {S : ch_S} {μ : ch_M} {kc ks pc : Nat} {L : List (Nat × Value)} {st : List Value} (h : ch_H X E RX5 cc nL) {k i : Nat} (hv : S.2.1 k 3 i) (hd : decode cc pc = .ok (.getfield 126, 3)) (kk : ch_W X E nL S μ kc ks (pc + 3) L (.int (μ k 3 i 1) :: st)) : ch_W X E nL S μ kc ks pc L (.ref (S.1 k 3 i) :: st) :=
  ca_geti (ci := 2) (j := 1) h rfl rfl li_X2 rfl hv (by decide) rfl kw_174 hd kk
theorem pi_X5_126 {X : ch_X} {E : ch_E} {cc : ByteArray} {nL : Nat} {S : ch_S} {μ : ch_M} {kc ks pc : Nat} {L : List (Nat × Value)} {st : List Value} (h : ch_H X E RX5 cc nL) {k i : Nat} {x : Int32} (hv : S.2.1 k 3 i) (hd : decode cc pc = .ok (.putfield 126, 3)) (kk : ch_W X E nL S (ch_st μ k 3 i 1 x) kc ks (pc + 3) L st) : ch_W X E nL S μ kc ks pc L (.int x :: .ref (S.1 k 3 i) :: st) :=
  ca_puti (ci := 2) (j := 1) (ty := .int) h rfl rfl li_X2 tyX2 tyX2_ok nmX2 rfl hv (by decide) rfl kw_174 rfl (by decide +kernel) rfl rfl (fun z => absurd z (by decide)) hd kk
theorem gi_X5_128 {X : ch_X} {E : ch_E} {cc : ByteArray} {nL : Nat} {S : ch_S} {μ : ch_M} {kc ks pc : Nat} {L : List (Nat × Value)} {st : List Value} (h : ch_H X E RX5 cc nL) {k i : Nat} (hv : S.2.1 k 3 i) (hd : decode cc pc = .ok (.getfield 128, 3)) (kk : ch_W X E nL S μ kc ks (pc + 3) L (.int (μ k 3 i 4) :: st)) : ch_W X E nL S μ kc ks pc L (.ref (S.1 k 3 i) :: st) :=
  ca_geti (ci := 2) (j := 4) h rfl rfl li_X2 rfl hv (by decide) rfl kw_185 hd kk
theorem pi_X5_128 {X : ch_X} {E : ch_E} {cc : ByteArray} {nL : Nat} {S : ch_S} {μ : ch_M} {kc ks pc : Nat} {L : List (Nat × Value)} {st : List Value} (h : ch_H X E RX5 cc nL) {k i : Nat} {x : Int32} (hv : S.2.1 k 3 i) (hd : decode cc pc = .ok (.putfield 128, 3)) (kk : ch_W X E nL S (ch_st μ k 3 i 4 x) kc ks (pc + 3) L st) : ch_W X E nL S μ kc ks pc L (.int x :: .ref (S.1 k 3 i) :: st) :=
  ca_puti (ci := 2) (j := 4) (ty := .int) h rfl rfl li_X2 tyX2 tyX2_ok nmX2 rfl hv (by decide) rfl kw_185 rfl (by decide +kernel) rfl rfl (fun z => absurd z (by decide)) hd kk
theorem gi_X5_130 {X : ch_X} {E : ch_E} {cc : ByteArray} {nL : Nat} {S : ch_S} {μ : ch_M} {kc ks pc : Nat} {L : List (Nat × Value)} {st : List Value} (h : ch_H X E RX5 cc nL) {k i : Nat} (hv : S.2.1 k 3 i) (hd : decode cc pc = .ok (.getfield 130, 3)) (kk : ch_W X E nL S μ kc ks (pc + 3) L (.int (μ k 3 i 5) :: st)) : ch_W X E nL S μ kc ks pc L (.ref (S.1 k 3 i) :: st) :=
  ca_geti (ci := 2) (j := 5) h rfl rfl li_X2 rfl hv (by decide) rfl kw_191 hd kk
theorem pi_X5_130 {X : ch_X} {E : ch_E} {cc : ByteArray} {nL : Nat} {S : ch_S} {μ : ch_M} {kc ks pc : Nat} {L : List (Nat × Value)} {st : List Value} (h : ch_H X E RX5 cc nL) {k i : Nat} {x : Int32} (hv : S.2.1 k 3 i) (hd : decode cc pc = .ok (.putfield 130, 3)) (kk : ch_W X E nL S (ch_st μ k 3 i 5 x) kc ks (pc + 3) L st) : ch_W X E nL S μ kc ks pc L (.int x :: .ref (S.1 k 3 i) :: st) :=
  ca_puti (ci := 2) (j := 5) (ty := .int) h rfl rfl li_X2 tyX2 tyX2_ok nmX2 rfl hv (by decide) rfl kw_191 rfl (by decide +kernel) rfl rfl (fun z => absurd z (by decide)) hd kk
theorem gi_X5_133 {X : ch_X} {E : ch_E} {cc : ByteArray} {nL : Nat} {S : ch_S} {μ : ch_M} {kc ks pc : Nat} {L : List (Nat × Value)} {st : List Value} (h : ch_H X E RX5 cc nL) {k i : Nat} (hv : S.2.1 k 3 i) (hd : decode cc pc = .ok (.getfield 133, 3)) (kk : ch_W X E nL S μ kc ks (pc + 3) L (.int (μ k 3 i 6) :: st)) : ch_W X E nL S μ kc ks pc L (.ref (S.1 k 3 i) :: st) :=
  ca_geti (ci := 2) (j := 6) h rfl rfl li_X2 rfl hv (by decide) rfl kw_196 hd kk
theorem pi_X5_133 {X : ch_X} {E : ch_E} {cc : ByteArray} {nL : Nat} {S : ch_S} {μ : ch_M} {kc ks pc : Nat} {L : List (Nat × Value)} {st : List Value} (h : ch_H X E RX5 cc nL) {k i : Nat} {x : Int32} (hv : S.2.1 k 3 i) (hd : decode cc pc = .ok (.putfield 133, 3)) (kk : ch_W X E nL S (ch_st μ k 3 i 6 x) kc ks (pc + 3) L st) : ch_W X E nL S μ kc ks pc L (.int x :: .ref (S.1 k 3 i) :: st) :=
  ca_puti (ci := 2) (j := 6) (ty := .int) h rfl rfl li_X2 tyX2 tyX2_ok nmX2 rfl hv (by decide) rfl kw_196 rfl (by decide +kernel) rfl rfl (fun z => absurd z (by decide)) hd kk
theorem gi_X5_139 {X : ch_X} {E : ch_E} {cc : ByteArray} {nL : Nat} {S : ch_S} {μ : ch_M} {kc ks pc : Nat} {L : List (Nat × Value)} {st : List Value} (h : ch_H X E RX5 cc nL) {k i : Nat} (hv : S.2.1 k 3 i) (hd : decode cc pc = .ok (.getfield 139, 3)) (kk : ch_W X E nL S μ kc ks (pc + 3) L (.int (μ k 3 i 8) :: st)) : ch_W X E nL S μ kc ks pc L (.ref (S.1 k 3 i) :: st) :=
  ca_geti (ci := 2) (j := 8) h rfl rfl li_X2 rfl hv (by decide) rfl kw_203 hd kk
theorem pi_X5_139 {X : ch_X} {E : ch_E} {cc : ByteArray} {nL : Nat} {S : ch_S} {μ : ch_M} {kc ks pc : Nat} {L : List (Nat × Value)} {st : List Value} (h : ch_H X E RX5 cc nL) {k i : Nat} {x : Int32} (hv : S.2.1 k 3 i) (hd : decode cc pc = .ok (.putfield 139, 3)) (kk : ch_W X E nL S (ch_st μ k 3 i 8 x) kc ks (pc + 3) L st) : ch_W X E nL S μ kc ks pc L (.int x :: .ref (S.1 k 3 i) :: st) :=
  ca_puti (ci := 2) (j := 8) (ty := .int) h rfl rfl li_X2 tyX2 tyX2_ok nmX2 rfl hv (by decide) rfl kw_203 rfl (by decide +kernel) rfl rfl (fun z => absurd z (by decide)) hd kk
theorem gr_X6_9 {X : ch_X} {E : ch_E} {cc : ByteArray} {nL : Nat} {S : ch_S} {μ : ch_M} {kc ks pc : Nat} {L : List (Nat × Value)} {st : List Value} (h : ch_H X E RX6 cc nL) {k i : Nat} {r : Option Nat} (hv : S.2.1 k 17 i) (hx : S.2.2 k 17 i 2 = r) (hd : decode cc pc = .ok (.getfield 9, 3)) (kk : ch_W X E nL S μ kc ks (pc + 3) L (va_rf r :: st)) : ch_W X E nL S μ kc ks pc L (.ref (S.1 k 17 i) :: st) :=
  ca_getr (ci := 6) (j := 2) h rfl rfl li_X6 rfl hv (by decide) rfl kw_356 hx hd kk
theorem gs_X6_9 {X : ch_X} {E : ch_E} {cc : ByteArray} {nL : Nat} {S : ch_S} {μ : ch_M} {kc ks pc : Nat} {L : List (Nat × Value)} {st : List Value} (h : ch_H X E RX6 cc nL) {k i : Nat} (hs : ch_Std E S) (hv : ch_V k 17 i) (hd : decode cc pc = .ok (.getfield 9, 3)) (kk : ch_W X E nL S μ kc ks (pc + 3) L (.ref (S.1 15 18 0) :: st)) : ch_W X E nL S μ kc ks pc L (.ref (S.1 k 17 i) :: st) :=
  gr_X6_9 h (hs.1 _ _ _ hv) (hs.2.1 k 17 i 2 _ hv rfl) hd kk
theorem gr_X6_15 {X : ch_X} {E : ch_E} {cc : ByteArray} {nL : Nat} {S : ch_S} {μ : ch_M} {kc ks pc : Nat} {L : List (Nat × Value)} {st : List Value} (h : ch_H X E RX6 cc nL) {k i : Nat} {r : Option Nat} (hv : S.2.1 k 17 i) (hx : S.2.2 k 17 i 3 = r) (hd : decode cc pc = .ok (.getfield 15, 3)) (kk : ch_W X E nL S μ kc ks (pc + 3) L (va_rf r :: st)) : ch_W X E nL S μ kc ks pc L (.ref (S.1 k 17 i) :: st) :=
  ca_getr (ci := 6) (j := 3) h rfl rfl li_X6 rfl hv (by decide) rfl kw_357 hx hd kk
theorem gs_X6_15 {X : ch_X} {E : ch_E} {cc : ByteArray} {nL : Nat} {S : ch_S} {μ : ch_M} {kc ks pc : Nat} {L : List (Nat × Value)} {st : List Value} (h : ch_H X E RX6 cc nL) {k i : Nat} (hs : ch_Std E S) (hv : ch_V k 17 i) (hd : decode cc pc = .ok (.getfield 15, 3)) (kk : ch_W X E nL S μ kc ks (pc + 3) L (.ref (S.1 15 19 0) :: st)) : ch_W X E nL S μ kc ks pc L (.ref (S.1 k 17 i) :: st) :=
  gr_X6_15 h (hs.1 _ _ _ hv) (hs.2.1 k 17 i 3 _ hv rfl) hd kk
theorem gi_X6_18 {X : ch_X} {E : ch_E} {cc : ByteArray} {nL : Nat} {S : ch_S} {μ : ch_M} {kc ks pc : Nat} {L : List (Nat × Value)} {st : List Value} (h : ch_H X E RX6 cc nL) {k i : Nat} (hv : S.2.1 k 17 i) (hd : decode cc pc = .ok (.getfield 18, 3)) (kk : ch_W X E nL S μ kc ks (pc + 3) L (.int (μ k 17 i 0) :: st)) : ch_W X E nL S μ kc ks pc L (.ref (S.1 k 17 i) :: st) :=
  ca_geti (ci := 6) (j := 0) h rfl rfl li_X6 rfl hv (by decide) rfl kw_352 hd kk
theorem pi_X6_18 {X : ch_X} {E : ch_E} {cc : ByteArray} {nL : Nat} {S : ch_S} {μ : ch_M} {kc ks pc : Nat} {L : List (Nat × Value)} {st : List Value} (h : ch_H X E RX6 cc nL) {k i : Nat} {x : Int32} (hv : S.2.1 k 17 i) (hd : decode cc pc = .ok (.putfield 18, 3)) (kk : ch_W X E nL S (ch_st μ k 17 i 0 x) kc ks (pc + 3) L st) : ch_W X E nL S μ kc ks pc L (.int x :: .ref (S.1 k 17 i) :: st) :=
  ca_puti (ci := 6) (j := 0) (ty := .int) h rfl rfl li_X6 tyX6 tyX6_ok nmX6 rfl hv (by decide) rfl kw_352 rfl (by decide +kernel) rfl rfl (fun z => absurd z (by decide)) hd kk
theorem gi_X6_22 {X : ch_X} {E : ch_E} {cc : ByteArray} {nL : Nat} {S : ch_S} {μ : ch_M} {kc ks pc : Nat} {L : List (Nat × Value)} {st : List Value} (h : ch_H X E RX6 cc nL) {k i : Nat} (hv : S.2.1 k 17 i) (hd : decode cc pc = .ok (.getfield 22, 3)) (kk : ch_W X E nL S μ kc ks (pc + 3) L (.int (μ k 17 i 1) :: st)) : ch_W X E nL S μ kc ks pc L (.ref (S.1 k 17 i) :: st) :=
  ca_geti (ci := 6) (j := 1) h rfl rfl li_X6 rfl hv (by decide) rfl kw_354 hd kk
theorem pi_X6_22 {X : ch_X} {E : ch_E} {cc : ByteArray} {nL : Nat} {S : ch_S} {μ : ch_M} {kc ks pc : Nat} {L : List (Nat × Value)} {st : List Value} (h : ch_H X E RX6 cc nL) {k i : Nat} {x : Int32} (hv : S.2.1 k 17 i) (hx : x = 0 ∨ x = 1) (hd : decode cc pc = .ok (.putfield 22, 3)) (kk : ch_W X E nL S (ch_st μ k 17 i 1 x) kc ks (pc + 3) L st) : ch_W X E nL S μ kc ks pc L (.int x :: .ref (S.1 k 17 i) :: st) :=
  ca_puti (ci := 6) (j := 1) (ty := .boolean) h rfl rfl li_X6 tyX6 tyX6_ok nmX6 rfl hv (by decide) rfl kw_354 rfl (by decide +kernel) (by rcases hx with rfl | rfl <;> decide) (by rcases hx with rfl | rfl <;> decide) (fun _ => hx) hd kk
theorem gi_X6_26 {X : ch_X} {E : ch_E} {cc : ByteArray} {nL : Nat} {S : ch_S} {μ : ch_M} {kc ks pc : Nat} {L : List (Nat × Value)} {st : List Value} (h : ch_H X E RX6 cc nL) {k i : Nat} (hv : S.2.1 k 3 i) (hd : decode cc pc = .ok (.getfield 26, 3)) (kk : ch_W X E nL S μ kc ks (pc + 3) L (.int (μ k 3 i 5) :: st)) : ch_W X E nL S μ kc ks pc L (.ref (S.1 k 3 i) :: st) :=
  ca_geti (ci := 2) (j := 5) h rfl rfl li_X2 rfl hv (by decide) rfl kw_189 hd kk
theorem pi_X6_26 {X : ch_X} {E : ch_E} {cc : ByteArray} {nL : Nat} {S : ch_S} {μ : ch_M} {kc ks pc : Nat} {L : List (Nat × Value)} {st : List Value} (h : ch_H X E RX6 cc nL) {k i : Nat} {x : Int32} (hv : S.2.1 k 3 i) (hd : decode cc pc = .ok (.putfield 26, 3)) (kk : ch_W X E nL S (ch_st μ k 3 i 5 x) kc ks (pc + 3) L st) : ch_W X E nL S μ kc ks pc L (.int x :: .ref (S.1 k 3 i) :: st) :=
  ca_puti (ci := 2) (j := 5) (ty := .int) h rfl rfl li_X2 tyX2 tyX2_ok nmX2 rfl hv (by decide) rfl kw_189 rfl (by decide +kernel) rfl rfl (fun z => absurd z (by decide)) hd kk
theorem gi_X6_41 {X : ch_X} {E : ch_E} {cc : ByteArray} {nL : Nat} {S : ch_S} {μ : ch_M} {kc ks pc : Nat} {L : List (Nat × Value)} {st : List Value} (h : ch_H X E RX6 cc nL) {k i : Nat} (hv : S.2.1 k 1 i) (hd : decode cc pc = .ok (.getfield 41, 3)) (kk : ch_W X E nL S μ kc ks (pc + 3) L (.int (μ k 1 i 7) :: st)) : ch_W X E nL S μ kc ks pc L (.ref (S.1 k 1 i) :: st) :=
  ca_geti (ci := 0) (j := 7) h rfl rfl li_X0 rfl hv (by decide) rfl kw_105 hd kk
theorem pi_X6_41 {X : ch_X} {E : ch_E} {cc : ByteArray} {nL : Nat} {S : ch_S} {μ : ch_M} {kc ks pc : Nat} {L : List (Nat × Value)} {st : List Value} (h : ch_H X E RX6 cc nL) {k i : Nat} {x : Int32} (hv : S.2.1 k 1 i) (hd : decode cc pc = .ok (.putfield 41, 3)) (kk : ch_W X E nL S (ch_st μ k 1 i 7 x) kc ks (pc + 3) L st) : ch_W X E nL S μ kc ks pc L (.int x :: .ref (S.1 k 1 i) :: st) :=
  ca_puti (ci := 0) (j := 7) (ty := .int) h rfl rfl li_X0 tyX0 tyX0_ok nmX0 rfl hv (by decide) rfl kw_105 rfl (by decide +kernel) rfl rfl (fun z => absurd z (by decide)) hd kk
theorem gi_X6_46 {X : ch_X} {E : ch_E} {cc : ByteArray} {nL : Nat} {S : ch_S} {μ : ch_M} {kc ks pc : Nat} {L : List (Nat × Value)} {st : List Value} (h : ch_H X E RX6 cc nL) {k i : Nat} (hv : S.2.1 k 0 i) (hd : decode cc pc = .ok (.getfield 46, 3)) (kk : ch_W X E nL S μ kc ks (pc + 3) L (.int (μ k 0 i 0) :: st)) : ch_W X E nL S μ kc ks pc L (.ref (S.1 k 0 i) :: st) :=
  ca_geti (ci := 3) (j := 0) h rfl rfl li_X3 rfl hv (by decide) rfl kw_244 hd kk
theorem pi_X6_46 {X : ch_X} {E : ch_E} {cc : ByteArray} {nL : Nat} {S : ch_S} {μ : ch_M} {kc ks pc : Nat} {L : List (Nat × Value)} {st : List Value} (h : ch_H X E RX6 cc nL) {k i : Nat} {x : Int32} (hv : S.2.1 k 0 i) (hd : decode cc pc = .ok (.putfield 46, 3)) (kk : ch_W X E nL S (ch_st μ k 0 i 0 x) kc ks (pc + 3) L st) : ch_W X E nL S μ kc ks pc L (.int x :: .ref (S.1 k 0 i) :: st) :=
  ca_puti (ci := 3) (j := 0) (ty := .int) h rfl rfl li_X3 tyX3 tyX3_ok nmX3 rfl hv (by decide) rfl kw_244 rfl (by decide +kernel) rfl rfl (fun z => absurd z (by decide)) hd kk
theorem gi_X6_61 {X : ch_X} {E : ch_E} {cc : ByteArray} {nL : Nat} {S : ch_S} {μ : ch_M} {kc ks pc : Nat} {L : List (Nat × Value)} {st : List Value} (h : ch_H X E RX6 cc nL) {k i : Nat} (hv : S.2.1 k 2 i) (hd : decode cc pc = .ok (.getfield 61, 3)) (kk : ch_W X E nL S μ kc ks (pc + 3) L (.int (μ k 2 i 0) :: st)) : ch_W X E nL S μ kc ks pc L (.ref (S.1 k 2 i) :: st) :=
  ca_geti (ci := 7) (j := 0) h rfl rfl li_X7 rfl hv (by decide) rfl kw_137 hd kk
theorem pi_X6_61 {X : ch_X} {E : ch_E} {cc : ByteArray} {nL : Nat} {S : ch_S} {μ : ch_M} {kc ks pc : Nat} {L : List (Nat × Value)} {st : List Value} (h : ch_H X E RX6 cc nL) {k i : Nat} {x : Int32} (hv : S.2.1 k 2 i) (hx : x = 0 ∨ x = 1) (hd : decode cc pc = .ok (.putfield 61, 3)) (kk : ch_W X E nL S (ch_st μ k 2 i 0 x) kc ks (pc + 3) L st) : ch_W X E nL S μ kc ks pc L (.int x :: .ref (S.1 k 2 i) :: st) :=
  ca_puti (ci := 7) (j := 0) (ty := .boolean) h rfl rfl li_X7 tyX7 tyX7_ok nmX7 rfl hv (by decide) rfl kw_137 rfl (by decide +kernel) (by rcases hx with rfl | rfl <;> decide) (by rcases hx with rfl | rfl <;> decide) (fun _ => hx) hd kk
theorem gi_X6_69 {X : ch_X} {E : ch_E} {cc : ByteArray} {nL : Nat} {S : ch_S} {μ : ch_M} {kc ks pc : Nat} {L : List (Nat × Value)} {st : List Value} (h : ch_H X E RX6 cc nL) {k i : Nat} (hv : S.2.1 k 0 i) (hd : decode cc pc = .ok (.getfield 69, 3)) (kk : ch_W X E nL S μ kc ks (pc + 3) L (.int (μ k 0 i 5) :: st)) : ch_W X E nL S μ kc ks pc L (.ref (S.1 k 0 i) :: st) :=
  ca_geti (ci := 3) (j := 5) h rfl rfl li_X3 rfl hv (by decide) rfl kw_265 hd kk
theorem pi_X6_69 {X : ch_X} {E : ch_E} {cc : ByteArray} {nL : Nat} {S : ch_S} {μ : ch_M} {kc ks pc : Nat} {L : List (Nat × Value)} {st : List Value} (h : ch_H X E RX6 cc nL) {k i : Nat} {x : Int32} (hv : S.2.1 k 0 i) (hd : decode cc pc = .ok (.putfield 69, 3)) (kk : ch_W X E nL S (ch_st μ k 0 i 5 x) kc ks (pc + 3) L st) : ch_W X E nL S μ kc ks pc L (.int x :: .ref (S.1 k 0 i) :: st) :=
  ca_puti (ci := 3) (j := 5) (ty := .int) h rfl rfl li_X3 tyX3 tyX3_ok nmX3 rfl hv (by decide) rfl kw_265 rfl (by decide +kernel) rfl rfl (fun z => absurd z (by decide)) hd kk
theorem gi_X6_72 {X : ch_X} {E : ch_E} {cc : ByteArray} {nL : Nat} {S : ch_S} {μ : ch_M} {kc ks pc : Nat} {L : List (Nat × Value)} {st : List Value} (h : ch_H X E RX6 cc nL) {k i : Nat} (hv : S.2.1 k 0 i) (hd : decode cc pc = .ok (.getfield 72, 3)) (kk : ch_W X E nL S μ kc ks (pc + 3) L (.int (μ k 0 i 3) :: st)) : ch_W X E nL S μ kc ks pc L (.ref (S.1 k 0 i) :: st) :=
  ca_geti (ci := 3) (j := 3) h rfl rfl li_X3 rfl hv (by decide) rfl kw_258 hd kk
theorem pi_X6_72 {X : ch_X} {E : ch_E} {cc : ByteArray} {nL : Nat} {S : ch_S} {μ : ch_M} {kc ks pc : Nat} {L : List (Nat × Value)} {st : List Value} (h : ch_H X E RX6 cc nL) {k i : Nat} {x : Int32} (hv : S.2.1 k 0 i) (hd : decode cc pc = .ok (.putfield 72, 3)) (kk : ch_W X E nL S (ch_st μ k 0 i 3 x) kc ks (pc + 3) L st) : ch_W X E nL S μ kc ks pc L (.int x :: .ref (S.1 k 0 i) :: st) :=
  ca_puti (ci := 3) (j := 3) (ty := .int) h rfl rfl li_X3 tyX3 tyX3_ok nmX3 rfl hv (by decide) rfl kw_258 rfl (by decide +kernel) rfl rfl (fun z => absurd z (by decide)) hd kk
theorem gi_X6_79 {X : ch_X} {E : ch_E} {cc : ByteArray} {nL : Nat} {S : ch_S} {μ : ch_M} {kc ks pc : Nat} {L : List (Nat × Value)} {st : List Value} (h : ch_H X E RX6 cc nL) {k i : Nat} (hv : S.2.1 k 1 i) (hd : decode cc pc = .ok (.getfield 79, 3)) (kk : ch_W X E nL S μ kc ks (pc + 3) L (.int (μ k 1 i 6) :: st)) : ch_W X E nL S μ kc ks pc L (.ref (S.1 k 1 i) :: st) :=
  ca_geti (ci := 0) (j := 6) h rfl rfl li_X0 rfl hv (by decide) rfl kw_102 hd kk
theorem pi_X6_79 {X : ch_X} {E : ch_E} {cc : ByteArray} {nL : Nat} {S : ch_S} {μ : ch_M} {kc ks pc : Nat} {L : List (Nat × Value)} {st : List Value} (h : ch_H X E RX6 cc nL) {k i : Nat} {x : Int32} (hv : S.2.1 k 1 i) (hd : decode cc pc = .ok (.putfield 79, 3)) (kk : ch_W X E nL S (ch_st μ k 1 i 6 x) kc ks (pc + 3) L st) : ch_W X E nL S μ kc ks pc L (.int x :: .ref (S.1 k 1 i) :: st) :=
  ca_puti (ci := 0) (j := 6) (ty := .int) h rfl rfl li_X0 tyX0 tyX0_ok nmX0 rfl hv (by decide) rfl kw_102 rfl (by decide +kernel) rfl rfl (fun z => absurd z (by decide)) hd kk
theorem gi_X6_82 {X : ch_X} {E : ch_E} {cc : ByteArray} {nL : Nat} {S : ch_S} {μ : ch_M} {kc ks pc : Nat} {L : List (Nat × Value)} {st : List Value} (h : ch_H X E RX6 cc nL) {k i : Nat} (hv : S.2.1 k 2 i) (hd : decode cc pc = .ok (.getfield 82, 3)) (kk : ch_W X E nL S μ kc ks (pc + 3) L (.int (μ k 2 i 1) :: st)) : ch_W X E nL S μ kc ks pc L (.ref (S.1 k 2 i) :: st) :=
  ca_geti (ci := 7) (j := 1) h rfl rfl li_X7 rfl hv (by decide) rfl kw_144 hd kk
theorem pi_X6_82 {X : ch_X} {E : ch_E} {cc : ByteArray} {nL : Nat} {S : ch_S} {μ : ch_M} {kc ks pc : Nat} {L : List (Nat × Value)} {st : List Value} (h : ch_H X E RX6 cc nL) {k i : Nat} {x : Int32} (hv : S.2.1 k 2 i) (hd : decode cc pc = .ok (.putfield 82, 3)) (kk : ch_W X E nL S (ch_st μ k 2 i 1 x) kc ks (pc + 3) L st) : ch_W X E nL S μ kc ks pc L (.int x :: .ref (S.1 k 2 i) :: st) :=
  ca_puti (ci := 7) (j := 1) (ty := .int) h rfl rfl li_X7 tyX7 tyX7_ok nmX7 rfl hv (by decide) rfl kw_144 rfl (by decide +kernel) rfl rfl (fun z => absurd z (by decide)) hd kk
theorem gi_X7_7 {X : ch_X} {E : ch_E} {cc : ByteArray} {nL : Nat} {S : ch_S} {μ : ch_M} {kc ks pc : Nat} {L : List (Nat × Value)} {st : List Value} (h : ch_H X E RX7 cc nL) {k i : Nat} (hv : S.2.1 k 2 i) (hd : decode cc pc = .ok (.getfield 7, 3)) (kk : ch_W X E nL S μ kc ks (pc + 3) L (.int (μ k 2 i 0) :: st)) : ch_W X E nL S μ kc ks pc L (.ref (S.1 k 2 i) :: st) :=
  ca_geti (ci := 7) (j := 0) h rfl rfl li_X7 rfl hv (by decide) rfl kw_136 hd kk
theorem pi_X7_7 {X : ch_X} {E : ch_E} {cc : ByteArray} {nL : Nat} {S : ch_S} {μ : ch_M} {kc ks pc : Nat} {L : List (Nat × Value)} {st : List Value} (h : ch_H X E RX7 cc nL) {k i : Nat} {x : Int32} (hv : S.2.1 k 2 i) (hx : x = 0 ∨ x = 1) (hd : decode cc pc = .ok (.putfield 7, 3)) (kk : ch_W X E nL S (ch_st μ k 2 i 0 x) kc ks (pc + 3) L st) : ch_W X E nL S μ kc ks pc L (.int x :: .ref (S.1 k 2 i) :: st) :=
  ca_puti (ci := 7) (j := 0) (ty := .boolean) h rfl rfl li_X7 tyX7 tyX7_ok nmX7 rfl hv (by decide) rfl kw_136 rfl (by decide +kernel) (by rcases hx with rfl | rfl <;> decide) (by rcases hx with rfl | rfl <;> decide) (fun _ => hx) hd kk
theorem gi_X7_13 {X : ch_X} {E : ch_E} {cc : ByteArray} {nL : Nat} {S : ch_S} {μ : ch_M} {kc ks pc : Nat} {L : List (Nat × Value)} {st : List Value} (h : ch_H X E RX7 cc nL) {k i : Nat} (hv : S.2.1 k 2 i) (hd : decode cc pc = .ok (.getfield 13, 3)) (kk : ch_W X E nL S μ kc ks (pc + 3) L (.int (μ k 2 i 1) :: st)) : ch_W X E nL S μ kc ks pc L (.ref (S.1 k 2 i) :: st) :=
  ca_geti (ci := 7) (j := 1) h rfl rfl li_X7 rfl hv (by decide) rfl kw_143 hd kk
theorem pi_X7_13 {X : ch_X} {E : ch_E} {cc : ByteArray} {nL : Nat} {S : ch_S} {μ : ch_M} {kc ks pc : Nat} {L : List (Nat × Value)} {st : List Value} (h : ch_H X E RX7 cc nL) {k i : Nat} {x : Int32} (hv : S.2.1 k 2 i) (hd : decode cc pc = .ok (.putfield 13, 3)) (kk : ch_W X E nL S (ch_st μ k 2 i 1 x) kc ks (pc + 3) L st) : ch_W X E nL S μ kc ks pc L (.int x :: .ref (S.1 k 2 i) :: st) :=
  ca_puti (ci := 7) (j := 1) (ty := .int) h rfl rfl li_X7 tyX7 tyX7_ok nmX7 rfl hv (by decide) rfl kw_143 rfl (by decide +kernel) rfl rfl (fun z => absurd z (by decide)) hd kk
theorem gi_X7_17 {X : ch_X} {E : ch_E} {cc : ByteArray} {nL : Nat} {S : ch_S} {μ : ch_M} {kc ks pc : Nat} {L : List (Nat × Value)} {st : List Value} (h : ch_H X E RX7 cc nL) {k i : Nat} (hv : S.2.1 k 2 i) (hd : decode cc pc = .ok (.getfield 17, 3)) (kk : ch_W X E nL S μ kc ks (pc + 3) L (.int (μ k 2 i 2) :: st)) : ch_W X E nL S μ kc ks pc L (.ref (S.1 k 2 i) :: st) :=
  ca_geti (ci := 7) (j := 2) h rfl rfl li_X7 rfl hv (by decide) rfl kw_147 hd kk
theorem pi_X7_17 {X : ch_X} {E : ch_E} {cc : ByteArray} {nL : Nat} {S : ch_S} {μ : ch_M} {kc ks pc : Nat} {L : List (Nat × Value)} {st : List Value} (h : ch_H X E RX7 cc nL) {k i : Nat} {x : Int32} (hv : S.2.1 k 2 i) (hd : decode cc pc = .ok (.putfield 17, 3)) (kk : ch_W X E nL S (ch_st μ k 2 i 2 x) kc ks (pc + 3) L st) : ch_W X E nL S μ kc ks pc L (.int x :: .ref (S.1 k 2 i) :: st) :=
  ca_puti (ci := 7) (j := 2) (ty := .int) h rfl rfl li_X7 tyX7 tyX7_ok nmX7 rfl hv (by decide) rfl kw_147 rfl (by decide +kernel) rfl rfl (fun z => absurd z (by decide)) hd kk
theorem gi_X7_20 {X : ch_X} {E : ch_E} {cc : ByteArray} {nL : Nat} {S : ch_S} {μ : ch_M} {kc ks pc : Nat} {L : List (Nat × Value)} {st : List Value} (h : ch_H X E RX7 cc nL) {k i : Nat} (hv : S.2.1 k 2 i) (hd : decode cc pc = .ok (.getfield 20, 3)) (kk : ch_W X E nL S μ kc ks (pc + 3) L (.int (μ k 2 i 3) :: st)) : ch_W X E nL S μ kc ks pc L (.ref (S.1 k 2 i) :: st) :=
  ca_geti (ci := 7) (j := 3) h rfl rfl li_X7 rfl hv (by decide) rfl kw_150 hd kk
theorem pi_X7_20 {X : ch_X} {E : ch_E} {cc : ByteArray} {nL : Nat} {S : ch_S} {μ : ch_M} {kc ks pc : Nat} {L : List (Nat × Value)} {st : List Value} (h : ch_H X E RX7 cc nL) {k i : Nat} {x : Int32} (hv : S.2.1 k 2 i) (hd : decode cc pc = .ok (.putfield 20, 3)) (kk : ch_W X E nL S (ch_st μ k 2 i 3 x) kc ks (pc + 3) L st) : ch_W X E nL S μ kc ks pc L (.int x :: .ref (S.1 k 2 i) :: st) :=
  ca_puti (ci := 7) (j := 3) (ty := .int) h rfl rfl li_X7 tyX7 tyX7_ok nmX7 rfl hv (by decide) rfl kw_150 rfl (by decide +kernel) rfl rfl (fun z => absurd z (by decide)) hd kk
theorem gr_X8_12 {X : ch_X} {E : ch_E} {cc : ByteArray} {nL : Nat} {S : ch_S} {μ : ch_M} {kc ks pc : Nat} {L : List (Nat × Value)} {st : List Value} (h : ch_H X E RX8 cc nL) {k i : Nat} {r : Option Nat} (hv : S.2.1 k 16 i) (hx : S.2.2 k 16 i 0 = r) (hd : decode cc pc = .ok (.getfield 12, 3)) (kk : ch_W X E nL S μ kc ks (pc + 3) L (va_rf r :: st)) : ch_W X E nL S μ kc ks pc L (.ref (S.1 k 16 i) :: st) :=
  ca_getr (ci := 8) (j := 0) h rfl rfl li_X8 rfl hv (by decide) rfl kw_367 hx hd kk
theorem gs_X8_12 {X : ch_X} {E : ch_E} {cc : ByteArray} {nL : Nat} {S : ch_S} {μ : ch_M} {kc ks pc : Nat} {L : List (Nat × Value)} {st : List Value} (h : ch_H X E RX8 cc nL) {k i : Nat} (hs : ch_Std E S) (hv : ch_V k 16 i) (hd : decode cc pc = .ok (.getfield 12, 3)) (kk : ch_W X E nL S μ kc ks (pc + 3) L (.ref (S.1 15 17 0) :: st)) : ch_W X E nL S μ kc ks pc L (.ref (S.1 k 16 i) :: st) :=
  gr_X8_12 h (hs.1 _ _ _ hv) (hs.2.1 k 16 i 0 _ hv rfl) hd kk
theorem gi_X8_43 {X : ch_X} {E : ch_E} {cc : ByteArray} {nL : Nat} {S : ch_S} {μ : ch_M} {kc ks pc : Nat} {L : List (Nat × Value)} {st : List Value} (h : ch_H X E RX8 cc nL) {k i : Nat} (hv : S.2.1 k 0 i) (hd : decode cc pc = .ok (.getfield 43, 3)) (kk : ch_W X E nL S μ kc ks (pc + 3) L (.int (μ k 0 i 3) :: st)) : ch_W X E nL S μ kc ks pc L (.ref (S.1 k 0 i) :: st) :=
  ca_geti (ci := 3) (j := 3) h rfl rfl li_X3 rfl hv (by decide) rfl kw_257 hd kk
theorem pi_X8_43 {X : ch_X} {E : ch_E} {cc : ByteArray} {nL : Nat} {S : ch_S} {μ : ch_M} {kc ks pc : Nat} {L : List (Nat × Value)} {st : List Value} (h : ch_H X E RX8 cc nL) {k i : Nat} {x : Int32} (hv : S.2.1 k 0 i) (hd : decode cc pc = .ok (.putfield 43, 3)) (kk : ch_W X E nL S (ch_st μ k 0 i 3 x) kc ks (pc + 3) L st) : ch_W X E nL S μ kc ks pc L (.int x :: .ref (S.1 k 0 i) :: st) :=
  ca_puti (ci := 3) (j := 3) (ty := .int) h rfl rfl li_X3 tyX3 tyX3_ok nmX3 rfl hv (by decide) rfl kw_257 rfl (by decide +kernel) rfl rfl (fun z => absurd z (by decide)) hd kk
theorem gi_X8_61 {X : ch_X} {E : ch_E} {cc : ByteArray} {nL : Nat} {S : ch_S} {μ : ch_M} {kc ks pc : Nat} {L : List (Nat × Value)} {st : List Value} (h : ch_H X E RX8 cc nL) {k i : Nat} (hv : S.2.1 k 0 i) (hd : decode cc pc = .ok (.getfield 61, 3)) (kk : ch_W X E nL S μ kc ks (pc + 3) L (.int (μ k 0 i 2) :: st)) : ch_W X E nL S μ kc ks pc L (.ref (S.1 k 0 i) :: st) :=
  ca_geti (ci := 3) (j := 2) h rfl rfl li_X3 rfl hv (by decide) rfl kw_253 hd kk
theorem pi_X8_61 {X : ch_X} {E : ch_E} {cc : ByteArray} {nL : Nat} {S : ch_S} {μ : ch_M} {kc ks pc : Nat} {L : List (Nat × Value)} {st : List Value} (h : ch_H X E RX8 cc nL) {k i : Nat} {x : Int32} (hv : S.2.1 k 0 i) (hd : decode cc pc = .ok (.putfield 61, 3)) (kk : ch_W X E nL S (ch_st μ k 0 i 2 x) kc ks (pc + 3) L st) : ch_W X E nL S μ kc ks pc L (.int x :: .ref (S.1 k 0 i) :: st) :=
  ca_puti (ci := 3) (j := 2) (ty := .int) h rfl rfl li_X3 tyX3 tyX3_ok nmX3 rfl hv (by decide) rfl kw_253 rfl (by decide +kernel) rfl rfl (fun z => absurd z (by decide)) hd kk
theorem gi_X8_64 {X : ch_X} {E : ch_E} {cc : ByteArray} {nL : Nat} {S : ch_S} {μ : ch_M} {kc ks pc : Nat} {L : List (Nat × Value)} {st : List Value} (h : ch_H X E RX8 cc nL) {k i : Nat} (hv : S.2.1 k 3 i) (hd : decode cc pc = .ok (.getfield 64, 3)) (kk : ch_W X E nL S μ kc ks (pc + 3) L (.int (μ k 3 i 0) :: st)) : ch_W X E nL S μ kc ks pc L (.ref (S.1 k 3 i) :: st) :=
  ca_geti (ci := 2) (j := 0) h rfl rfl li_X2 rfl hv (by decide) rfl kw_168 hd kk
theorem pi_X8_64 {X : ch_X} {E : ch_E} {cc : ByteArray} {nL : Nat} {S : ch_S} {μ : ch_M} {kc ks pc : Nat} {L : List (Nat × Value)} {st : List Value} (h : ch_H X E RX8 cc nL) {k i : Nat} {x : Int32} (hv : S.2.1 k 3 i) (hd : decode cc pc = .ok (.putfield 64, 3)) (kk : ch_W X E nL S (ch_st μ k 3 i 0 x) kc ks (pc + 3) L st) : ch_W X E nL S μ kc ks pc L (.int x :: .ref (S.1 k 3 i) :: st) :=
  ca_puti (ci := 2) (j := 0) (ty := .int) h rfl rfl li_X2 tyX2 tyX2_ok nmX2 rfl hv (by decide) rfl kw_168 rfl (by decide +kernel) rfl rfl (fun z => absurd z (by decide)) hd kk
theorem gi_X8_69 {X : ch_X} {E : ch_E} {cc : ByteArray} {nL : Nat} {S : ch_S} {μ : ch_M} {kc ks pc : Nat} {L : List (Nat × Value)} {st : List Value} (h : ch_H X E RX8 cc nL) {k i : Nat} (hv : S.2.1 k 3 i) (hd : decode cc pc = .ok (.getfield 69, 3)) (kk : ch_W X E nL S μ kc ks (pc + 3) L (.int (μ k 3 i 2) :: st)) : ch_W X E nL S μ kc ks pc L (.ref (S.1 k 3 i) :: st) :=
  ca_geti (ci := 2) (j := 2) h rfl rfl li_X2 rfl hv (by decide) rfl kw_178 hd kk
theorem pi_X8_69 {X : ch_X} {E : ch_E} {cc : ByteArray} {nL : Nat} {S : ch_S} {μ : ch_M} {kc ks pc : Nat} {L : List (Nat × Value)} {st : List Value} (h : ch_H X E RX8 cc nL) {k i : Nat} {x : Int32} (hv : S.2.1 k 3 i) (hd : decode cc pc = .ok (.putfield 69, 3)) (kk : ch_W X E nL S (ch_st μ k 3 i 2 x) kc ks (pc + 3) L st) : ch_W X E nL S μ kc ks pc L (.int x :: .ref (S.1 k 3 i) :: st) :=
  ca_puti (ci := 2) (j := 2) (ty := .int) h rfl rfl li_X2 tyX2 tyX2_ok nmX2 rfl hv (by decide) rfl kw_178 rfl (by decide +kernel) rfl rfl (fun z => absurd z (by decide)) hd kk
theorem gi_X8_81 {X : ch_X} {E : ch_E} {cc : ByteArray} {nL : Nat} {S : ch_S} {μ : ch_M} {kc ks pc : Nat} {L : List (Nat × Value)} {st : List Value} (h : ch_H X E RX8 cc nL) {k i : Nat} (hv : S.2.1 k 3 i) (hd : decode cc pc = .ok (.getfield 81, 3)) (kk : ch_W X E nL S μ kc ks (pc + 3) L (.int (μ k 3 i 1) :: st)) : ch_W X E nL S μ kc ks pc L (.ref (S.1 k 3 i) :: st) :=
  ca_geti (ci := 2) (j := 1) h rfl rfl li_X2 rfl hv (by decide) rfl kw_173 hd kk
theorem pi_X8_81 {X : ch_X} {E : ch_E} {cc : ByteArray} {nL : Nat} {S : ch_S} {μ : ch_M} {kc ks pc : Nat} {L : List (Nat × Value)} {st : List Value} (h : ch_H X E RX8 cc nL) {k i : Nat} {x : Int32} (hv : S.2.1 k 3 i) (hd : decode cc pc = .ok (.putfield 81, 3)) (kk : ch_W X E nL S (ch_st μ k 3 i 1 x) kc ks (pc + 3) L st) : ch_W X E nL S μ kc ks pc L (.int x :: .ref (S.1 k 3 i) :: st) :=
  ca_puti (ci := 2) (j := 1) (ty := .int) h rfl rfl li_X2 tyX2 tyX2_ok nmX2 rfl hv (by decide) rfl kw_173 rfl (by decide +kernel) rfl rfl (fun z => absurd z (by decide)) hd kk
theorem gi_X8_84 {X : ch_X} {E : ch_E} {cc : ByteArray} {nL : Nat} {S : ch_S} {μ : ch_M} {kc ks pc : Nat} {L : List (Nat × Value)} {st : List Value} (h : ch_H X E RX8 cc nL) {k i : Nat} (hv : S.2.1 k 3 i) (hd : decode cc pc = .ok (.getfield 84, 3)) (kk : ch_W X E nL S μ kc ks (pc + 3) L (.int (μ k 3 i 3) :: st)) : ch_W X E nL S μ kc ks pc L (.ref (S.1 k 3 i) :: st) :=
  ca_geti (ci := 2) (j := 3) h rfl rfl li_X2 rfl hv (by decide) rfl kw_181 hd kk
theorem pi_X8_84 {X : ch_X} {E : ch_E} {cc : ByteArray} {nL : Nat} {S : ch_S} {μ : ch_M} {kc ks pc : Nat} {L : List (Nat × Value)} {st : List Value} (h : ch_H X E RX8 cc nL) {k i : Nat} {x : Int32} (hv : S.2.1 k 3 i) (hd : decode cc pc = .ok (.putfield 84, 3)) (kk : ch_W X E nL S (ch_st μ k 3 i 3 x) kc ks (pc + 3) L st) : ch_W X E nL S μ kc ks pc L (.int x :: .ref (S.1 k 3 i) :: st) :=
  ca_puti (ci := 2) (j := 3) (ty := .int) h rfl rfl li_X2 tyX2 tyX2_ok nmX2 rfl hv (by decide) rfl kw_181 rfl (by decide +kernel) rfl rfl (fun z => absurd z (by decide)) hd kk
theorem gi_X8_87 {X : ch_X} {E : ch_E} {cc : ByteArray} {nL : Nat} {S : ch_S} {μ : ch_M} {kc ks pc : Nat} {L : List (Nat × Value)} {st : List Value} (h : ch_H X E RX8 cc nL) {k i : Nat} (hv : S.2.1 k 3 i) (hd : decode cc pc = .ok (.getfield 87, 3)) (kk : ch_W X E nL S μ kc ks (pc + 3) L (.int (μ k 3 i 4) :: st)) : ch_W X E nL S μ kc ks pc L (.ref (S.1 k 3 i) :: st) :=
  ca_geti (ci := 2) (j := 4) h rfl rfl li_X2 rfl hv (by decide) rfl kw_184 hd kk
theorem pi_X8_87 {X : ch_X} {E : ch_E} {cc : ByteArray} {nL : Nat} {S : ch_S} {μ : ch_M} {kc ks pc : Nat} {L : List (Nat × Value)} {st : List Value} (h : ch_H X E RX8 cc nL) {k i : Nat} {x : Int32} (hv : S.2.1 k 3 i) (hd : decode cc pc = .ok (.putfield 87, 3)) (kk : ch_W X E nL S (ch_st μ k 3 i 4 x) kc ks (pc + 3) L st) : ch_W X E nL S μ kc ks pc L (.int x :: .ref (S.1 k 3 i) :: st) :=
  ca_puti (ci := 2) (j := 4) (ty := .int) h rfl rfl li_X2 tyX2 tyX2_ok nmX2 rfl hv (by decide) rfl kw_184 rfl (by decide +kernel) rfl rfl (fun z => absurd z (by decide)) hd kk
theorem gi_X8_93 {X : ch_X} {E : ch_E} {cc : ByteArray} {nL : Nat} {S : ch_S} {μ : ch_M} {kc ks pc : Nat} {L : List (Nat × Value)} {st : List Value} (h : ch_H X E RX8 cc nL) {k i : Nat} (hv : S.2.1 k 0 i) (hd : decode cc pc = .ok (.getfield 93, 3)) (kk : ch_W X E nL S μ kc ks (pc + 3) L (.int (μ k 0 i 0) :: st)) : ch_W X E nL S μ kc ks pc L (.ref (S.1 k 0 i) :: st) :=
  ca_geti (ci := 3) (j := 0) h rfl rfl li_X3 rfl hv (by decide) rfl kw_248 hd kk
theorem pi_X8_93 {X : ch_X} {E : ch_E} {cc : ByteArray} {nL : Nat} {S : ch_S} {μ : ch_M} {kc ks pc : Nat} {L : List (Nat × Value)} {st : List Value} (h : ch_H X E RX8 cc nL) {k i : Nat} {x : Int32} (hv : S.2.1 k 0 i) (hd : decode cc pc = .ok (.putfield 93, 3)) (kk : ch_W X E nL S (ch_st μ k 0 i 0 x) kc ks (pc + 3) L st) : ch_W X E nL S μ kc ks pc L (.int x :: .ref (S.1 k 0 i) :: st) :=
  ca_puti (ci := 3) (j := 0) (ty := .int) h rfl rfl li_X3 tyX3 tyX3_ok nmX3 rfl hv (by decide) rfl kw_248 rfl (by decide +kernel) rfl rfl (fun z => absurd z (by decide)) hd kk
theorem gi_X8_96 {X : ch_X} {E : ch_E} {cc : ByteArray} {nL : Nat} {S : ch_S} {μ : ch_M} {kc ks pc : Nat} {L : List (Nat × Value)} {st : List Value} (h : ch_H X E RX8 cc nL) {k i : Nat} (hv : S.2.1 k 3 i) (hd : decode cc pc = .ok (.getfield 96, 3)) (kk : ch_W X E nL S μ kc ks (pc + 3) L (.int (μ k 3 i 5) :: st)) : ch_W X E nL S μ kc ks pc L (.ref (S.1 k 3 i) :: st) :=
  ca_geti (ci := 2) (j := 5) h rfl rfl li_X2 rfl hv (by decide) rfl kw_190 hd kk
theorem pi_X8_96 {X : ch_X} {E : ch_E} {cc : ByteArray} {nL : Nat} {S : ch_S} {μ : ch_M} {kc ks pc : Nat} {L : List (Nat × Value)} {st : List Value} (h : ch_H X E RX8 cc nL) {k i : Nat} {x : Int32} (hv : S.2.1 k 3 i) (hd : decode cc pc = .ok (.putfield 96, 3)) (kk : ch_W X E nL S (ch_st μ k 3 i 5 x) kc ks (pc + 3) L st) : ch_W X E nL S μ kc ks pc L (.int x :: .ref (S.1 k 3 i) :: st) :=
  ca_puti (ci := 2) (j := 5) (ty := .int) h rfl rfl li_X2 tyX2 tyX2_ok nmX2 rfl hv (by decide) rfl kw_190 rfl (by decide +kernel) rfl rfl (fun z => absurd z (by decide)) hd kk
theorem gi_X8_103 {X : ch_X} {E : ch_E} {cc : ByteArray} {nL : Nat} {S : ch_S} {μ : ch_M} {kc ks pc : Nat} {L : List (Nat × Value)} {st : List Value} (h : ch_H X E RX8 cc nL) {k i : Nat} (hv : S.2.1 k 2 i) (hd : decode cc pc = .ok (.getfield 103, 3)) (kk : ch_W X E nL S μ kc ks (pc + 3) L (.int (μ k 2 i 0) :: st)) : ch_W X E nL S μ kc ks pc L (.ref (S.1 k 2 i) :: st) :=
  ca_geti (ci := 7) (j := 0) h rfl rfl li_X7 rfl hv (by decide) rfl kw_140 hd kk
theorem pi_X8_103 {X : ch_X} {E : ch_E} {cc : ByteArray} {nL : Nat} {S : ch_S} {μ : ch_M} {kc ks pc : Nat} {L : List (Nat × Value)} {st : List Value} (h : ch_H X E RX8 cc nL) {k i : Nat} {x : Int32} (hv : S.2.1 k 2 i) (hx : x = 0 ∨ x = 1) (hd : decode cc pc = .ok (.putfield 103, 3)) (kk : ch_W X E nL S (ch_st μ k 2 i 0 x) kc ks (pc + 3) L st) : ch_W X E nL S μ kc ks pc L (.int x :: .ref (S.1 k 2 i) :: st) :=
  ca_puti (ci := 7) (j := 0) (ty := .boolean) h rfl rfl li_X7 tyX7 tyX7_ok nmX7 rfl hv (by decide) rfl kw_140 rfl (by decide +kernel) (by rcases hx with rfl | rfl <;> decide) (by rcases hx with rfl | rfl <;> decide) (fun _ => hx) hd kk
theorem gi_X8_118 {X : ch_X} {E : ch_E} {cc : ByteArray} {nL : Nat} {S : ch_S} {μ : ch_M} {kc ks pc : Nat} {L : List (Nat × Value)} {st : List Value} (h : ch_H X E RX8 cc nL) {k i : Nat} (hv : S.2.1 k 0 i) (hd : decode cc pc = .ok (.getfield 118, 3)) (kk : ch_W X E nL S μ kc ks (pc + 3) L (.int (μ k 0 i 4) :: st)) : ch_W X E nL S μ kc ks pc L (.ref (S.1 k 0 i) :: st) :=
  ca_geti (ci := 3) (j := 4) h rfl rfl li_X3 rfl hv (by decide) rfl kw_263 hd kk
theorem pi_X8_118 {X : ch_X} {E : ch_E} {cc : ByteArray} {nL : Nat} {S : ch_S} {μ : ch_M} {kc ks pc : Nat} {L : List (Nat × Value)} {st : List Value} (h : ch_H X E RX8 cc nL) {k i : Nat} {x : Int32} (hv : S.2.1 k 0 i) (hd : decode cc pc = .ok (.putfield 118, 3)) (kk : ch_W X E nL S (ch_st μ k 0 i 4 x) kc ks (pc + 3) L st) : ch_W X E nL S μ kc ks pc L (.int x :: .ref (S.1 k 0 i) :: st) :=
  ca_puti (ci := 3) (j := 4) (ty := .int) h rfl rfl li_X3 tyX3 tyX3_ok nmX3 rfl hv (by decide) rfl kw_263 rfl (by decide +kernel) rfl rfl (fun z => absurd z (by decide)) hd kk
theorem gi_X8_129 {X : ch_X} {E : ch_E} {cc : ByteArray} {nL : Nat} {S : ch_S} {μ : ch_M} {kc ks pc : Nat} {L : List (Nat × Value)} {st : List Value} (h : ch_H X E RX8 cc nL) {k i : Nat} (hv : S.2.1 k 3 i) (hd : decode cc pc = .ok (.getfield 129, 3)) (kk : ch_W X E nL S μ kc ks (pc + 3) L (.int (μ k 3 i 6) :: st)) : ch_W X E nL S μ kc ks pc L (.ref (S.1 k 3 i) :: st) :=
  ca_geti (ci := 2) (j := 6) h rfl rfl li_X2 rfl hv (by decide) rfl kw_195 hd kk
theorem pi_X8_129 {X : ch_X} {E : ch_E} {cc : ByteArray} {nL : Nat} {S : ch_S} {μ : ch_M} {kc ks pc : Nat} {L : List (Nat × Value)} {st : List Value} (h : ch_H X E RX8 cc nL) {k i : Nat} {x : Int32} (hv : S.2.1 k 3 i) (hd : decode cc pc = .ok (.putfield 129, 3)) (kk : ch_W X E nL S (ch_st μ k 3 i 6 x) kc ks (pc + 3) L st) : ch_W X E nL S μ kc ks pc L (.int x :: .ref (S.1 k 3 i) :: st) :=
  ca_puti (ci := 2) (j := 6) (ty := .int) h rfl rfl li_X2 tyX2 tyX2_ok nmX2 rfl hv (by decide) rfl kw_195 rfl (by decide +kernel) rfl rfl (fun z => absurd z (by decide)) hd kk
theorem gi_X8_141 {X : ch_X} {E : ch_E} {cc : ByteArray} {nL : Nat} {S : ch_S} {μ : ch_M} {kc ks pc : Nat} {L : List (Nat × Value)} {st : List Value} (h : ch_H X E RX8 cc nL) {k i : Nat} (hv : S.2.1 k 0 i) (hd : decode cc pc = .ok (.getfield 141, 3)) (kk : ch_W X E nL S μ kc ks (pc + 3) L (.int (μ k 0 i 8) :: st)) : ch_W X E nL S μ kc ks pc L (.ref (S.1 k 0 i) :: st) :=
  ca_geti (ci := 3) (j := 8) h rfl rfl li_X3 rfl hv (by decide) rfl kw_274 hd kk
theorem pi_X8_141 {X : ch_X} {E : ch_E} {cc : ByteArray} {nL : Nat} {S : ch_S} {μ : ch_M} {kc ks pc : Nat} {L : List (Nat × Value)} {st : List Value} (h : ch_H X E RX8 cc nL) {k i : Nat} {x : Int32} (hv : S.2.1 k 0 i) (hd : decode cc pc = .ok (.putfield 141, 3)) (kk : ch_W X E nL S (ch_st μ k 0 i 8 x) kc ks (pc + 3) L st) : ch_W X E nL S μ kc ks pc L (.int x :: .ref (S.1 k 0 i) :: st) :=
  ca_puti (ci := 3) (j := 8) (ty := .int) h rfl rfl li_X3 tyX3 tyX3_ok nmX3 rfl hv (by decide) rfl kw_274 rfl (by decide +kernel) rfl rfl (fun z => absurd z (by decide)) hd kk
theorem gi_X8_144 {X : ch_X} {E : ch_E} {cc : ByteArray} {nL : Nat} {S : ch_S} {μ : ch_M} {kc ks pc : Nat} {L : List (Nat × Value)} {st : List Value} (h : ch_H X E RX8 cc nL) {k i : Nat} (hv : S.2.1 k 3 i) (hd : decode cc pc = .ok (.getfield 144, 3)) (kk : ch_W X E nL S μ kc ks (pc + 3) L (.int (μ k 3 i 7) :: st)) : ch_W X E nL S μ kc ks pc L (.ref (S.1 k 3 i) :: st) :=
  ca_geti (ci := 2) (j := 7) h rfl rfl li_X2 rfl hv (by decide) rfl kw_200 hd kk
theorem pi_X8_144 {X : ch_X} {E : ch_E} {cc : ByteArray} {nL : Nat} {S : ch_S} {μ : ch_M} {kc ks pc : Nat} {L : List (Nat × Value)} {st : List Value} (h : ch_H X E RX8 cc nL) {k i : Nat} {x : Int32} (hv : S.2.1 k 3 i) (hd : decode cc pc = .ok (.putfield 144, 3)) (kk : ch_W X E nL S (ch_st μ k 3 i 7 x) kc ks (pc + 3) L st) : ch_W X E nL S μ kc ks pc L (.int x :: .ref (S.1 k 3 i) :: st) :=
  ca_puti (ci := 2) (j := 7) (ty := .int) h rfl rfl li_X2 tyX2 tyX2_ok nmX2 rfl hv (by decide) rfl kw_200 rfl (by decide +kernel) rfl rfl (fun z => absurd z (by decide)) hd kk
theorem gi_X8_147 {X : ch_X} {E : ch_E} {cc : ByteArray} {nL : Nat} {S : ch_S} {μ : ch_M} {kc ks pc : Nat} {L : List (Nat × Value)} {st : List Value} (h : ch_H X E RX8 cc nL) {k i : Nat} (hv : S.2.1 k 0 i) (hd : decode cc pc = .ok (.getfield 147, 3)) (kk : ch_W X E nL S μ kc ks (pc + 3) L (.int (μ k 0 i 9) :: st)) : ch_W X E nL S μ kc ks pc L (.ref (S.1 k 0 i) :: st) :=
  ca_geti (ci := 3) (j := 9) h rfl rfl li_X3 rfl hv (by decide) rfl kw_277 hd kk
theorem pi_X8_147 {X : ch_X} {E : ch_E} {cc : ByteArray} {nL : Nat} {S : ch_S} {μ : ch_M} {kc ks pc : Nat} {L : List (Nat × Value)} {st : List Value} (h : ch_H X E RX8 cc nL) {k i : Nat} {x : Int32} (hv : S.2.1 k 0 i) (hd : decode cc pc = .ok (.putfield 147, 3)) (kk : ch_W X E nL S (ch_st μ k 0 i 9 x) kc ks (pc + 3) L st) : ch_W X E nL S μ kc ks pc L (.int x :: .ref (S.1 k 0 i) :: st) :=
  ca_puti (ci := 3) (j := 9) (ty := .int) h rfl rfl li_X3 tyX3 tyX3_ok nmX3 rfl hv (by decide) rfl kw_277 rfl (by decide +kernel) rfl rfl (fun z => absurd z (by decide)) hd kk
theorem gi_X8_168 {X : ch_X} {E : ch_E} {cc : ByteArray} {nL : Nat} {S : ch_S} {μ : ch_M} {kc ks pc : Nat} {L : List (Nat × Value)} {st : List Value} (h : ch_H X E RX8 cc nL) {k i : Nat} (hv : S.2.1 k 3 i) (hd : decode cc pc = .ok (.getfield 168, 3)) (kk : ch_W X E nL S μ kc ks (pc + 3) L (.int (μ k 3 i 8) :: st)) : ch_W X E nL S μ kc ks pc L (.ref (S.1 k 3 i) :: st) :=
  ca_geti (ci := 2) (j := 8) h rfl rfl li_X2 rfl hv (by decide) rfl kw_204 hd kk
theorem pi_X8_168 {X : ch_X} {E : ch_E} {cc : ByteArray} {nL : Nat} {S : ch_S} {μ : ch_M} {kc ks pc : Nat} {L : List (Nat × Value)} {st : List Value} (h : ch_H X E RX8 cc nL) {k i : Nat} {x : Int32} (hv : S.2.1 k 3 i) (hd : decode cc pc = .ok (.putfield 168, 3)) (kk : ch_W X E nL S (ch_st μ k 3 i 8 x) kc ks (pc + 3) L st) : ch_W X E nL S μ kc ks pc L (.int x :: .ref (S.1 k 3 i) :: st) :=
  ca_puti (ci := 2) (j := 8) (ty := .int) h rfl rfl li_X2 tyX2 tyX2_ok nmX2 rfl hv (by decide) rfl kw_204 rfl (by decide +kernel) rfl rfl (fun z => absurd z (by decide)) hd kk
theorem gi_X8_174 {X : ch_X} {E : ch_E} {cc : ByteArray} {nL : Nat} {S : ch_S} {μ : ch_M} {kc ks pc : Nat} {L : List (Nat × Value)} {st : List Value} (h : ch_H X E RX8 cc nL) {k i : Nat} (hv : S.2.1 k 17 i) (hd : decode cc pc = .ok (.getfield 174, 3)) (kk : ch_W X E nL S μ kc ks (pc + 3) L (.int (μ k 17 i 0) :: st)) : ch_W X E nL S μ kc ks pc L (.ref (S.1 k 17 i) :: st) :=
  ca_geti (ci := 6) (j := 0) h rfl rfl li_X6 rfl hv (by decide) rfl kw_353 hd kk
theorem pi_X8_174 {X : ch_X} {E : ch_E} {cc : ByteArray} {nL : Nat} {S : ch_S} {μ : ch_M} {kc ks pc : Nat} {L : List (Nat × Value)} {st : List Value} (h : ch_H X E RX8 cc nL) {k i : Nat} {x : Int32} (hv : S.2.1 k 17 i) (hd : decode cc pc = .ok (.putfield 174, 3)) (kk : ch_W X E nL S (ch_st μ k 17 i 0 x) kc ks (pc + 3) L st) : ch_W X E nL S μ kc ks pc L (.int x :: .ref (S.1 k 17 i) :: st) :=
  ca_puti (ci := 6) (j := 0) (ty := .int) h rfl rfl li_X6 tyX6 tyX6_ok nmX6 rfl hv (by decide) rfl kw_353 rfl (by decide +kernel) rfl rfl (fun z => absurd z (by decide)) hd kk
theorem gi_X8_176 {X : ch_X} {E : ch_E} {cc : ByteArray} {nL : Nat} {S : ch_S} {μ : ch_M} {kc ks pc : Nat} {L : List (Nat × Value)} {st : List Value} (h : ch_H X E RX8 cc nL) {k i : Nat} (hv : S.2.1 k 2 i) (hd : decode cc pc = .ok (.getfield 176, 3)) (kk : ch_W X E nL S μ kc ks (pc + 3) L (.int (μ k 2 i 3) :: st)) : ch_W X E nL S μ kc ks pc L (.ref (S.1 k 2 i) :: st) :=
  ca_geti (ci := 7) (j := 3) h rfl rfl li_X7 rfl hv (by decide) rfl kw_151 hd kk
theorem pi_X8_176 {X : ch_X} {E : ch_E} {cc : ByteArray} {nL : Nat} {S : ch_S} {μ : ch_M} {kc ks pc : Nat} {L : List (Nat × Value)} {st : List Value} (h : ch_H X E RX8 cc nL) {k i : Nat} {x : Int32} (hv : S.2.1 k 2 i) (hd : decode cc pc = .ok (.putfield 176, 3)) (kk : ch_W X E nL S (ch_st μ k 2 i 3 x) kc ks (pc + 3) L st) : ch_W X E nL S μ kc ks pc L (.int x :: .ref (S.1 k 2 i) :: st) :=
  ca_puti (ci := 7) (j := 3) (ty := .int) h rfl rfl li_X7 tyX7 tyX7_ok nmX7 rfl hv (by decide) rfl kw_151 rfl (by decide +kernel) rfl rfl (fun z => absurd z (by decide)) hd kk
theorem gi_X8_179 {X : ch_X} {E : ch_E} {cc : ByteArray} {nL : Nat} {S : ch_S} {μ : ch_M} {kc ks pc : Nat} {L : List (Nat × Value)} {st : List Value} (h : ch_H X E RX8 cc nL) {k i : Nat} (hv : S.2.1 k 17 i) (hd : decode cc pc = .ok (.getfield 179, 3)) (kk : ch_W X E nL S μ kc ks (pc + 3) L (.int (μ k 17 i 1) :: st)) : ch_W X E nL S μ kc ks pc L (.ref (S.1 k 17 i) :: st) :=
  ca_geti (ci := 6) (j := 1) h rfl rfl li_X6 rfl hv (by decide) rfl kw_355 hd kk
theorem pi_X8_179 {X : ch_X} {E : ch_E} {cc : ByteArray} {nL : Nat} {S : ch_S} {μ : ch_M} {kc ks pc : Nat} {L : List (Nat × Value)} {st : List Value} (h : ch_H X E RX8 cc nL) {k i : Nat} {x : Int32} (hv : S.2.1 k 17 i) (hx : x = 0 ∨ x = 1) (hd : decode cc pc = .ok (.putfield 179, 3)) (kk : ch_W X E nL S (ch_st μ k 17 i 1 x) kc ks (pc + 3) L st) : ch_W X E nL S μ kc ks pc L (.int x :: .ref (S.1 k 17 i) :: st) :=
  ca_puti (ci := 6) (j := 1) (ty := .boolean) h rfl rfl li_X6 tyX6 tyX6_ok nmX6 rfl hv (by decide) rfl kw_355 rfl (by decide +kernel) (by rcases hx with rfl | rfl <;> decide) (by rcases hx with rfl | rfl <;> decide) (fun _ => hx) hd kk
theorem gi_X8_189 {X : ch_X} {E : ch_E} {cc : ByteArray} {nL : Nat} {S : ch_S} {μ : ch_M} {kc ks pc : Nat} {L : List (Nat × Value)} {st : List Value} (h : ch_H X E RX8 cc nL) {k i : Nat} (hv : S.2.1 k 1 i) (hd : decode cc pc = .ok (.getfield 189, 3)) (kk : ch_W X E nL S μ kc ks (pc + 3) L (.int (μ k 1 i 8) :: st)) : ch_W X E nL S μ kc ks pc L (.ref (S.1 k 1 i) :: st) :=
  ca_geti (ci := 0) (j := 8) h rfl rfl li_X0 rfl hv (by decide) rfl kw_110 hd kk
theorem pi_X8_189 {X : ch_X} {E : ch_E} {cc : ByteArray} {nL : Nat} {S : ch_S} {μ : ch_M} {kc ks pc : Nat} {L : List (Nat × Value)} {st : List Value} (h : ch_H X E RX8 cc nL) {k i : Nat} {x : Int32} (hv : S.2.1 k 1 i) (hd : decode cc pc = .ok (.putfield 189, 3)) (kk : ch_W X E nL S (ch_st μ k 1 i 8 x) kc ks (pc + 3) L st) : ch_W X E nL S μ kc ks pc L (.int x :: .ref (S.1 k 1 i) :: st) :=
  ca_puti (ci := 0) (j := 8) (ty := .int) h rfl rfl li_X0 tyX0 tyX0_ok nmX0 rfl hv (by decide) rfl kw_110 rfl (by decide +kernel) rfl rfl (fun z => absurd z (by decide)) hd kk
theorem gi_X8_192 {X : ch_X} {E : ch_E} {cc : ByteArray} {nL : Nat} {S : ch_S} {μ : ch_M} {kc ks pc : Nat} {L : List (Nat × Value)} {st : List Value} (h : ch_H X E RX8 cc nL) {k i : Nat} (hv : S.2.1 k 3 i) (hd : decode cc pc = .ok (.getfield 192, 3)) (kk : ch_W X E nL S μ kc ks (pc + 3) L (.int (μ k 3 i 9) :: st)) : ch_W X E nL S μ kc ks pc L (.ref (S.1 k 3 i) :: st) :=
  ca_geti (ci := 2) (j := 9) h rfl rfl li_X2 rfl hv (by decide) rfl kw_208 hd kk
theorem pi_X8_192 {X : ch_X} {E : ch_E} {cc : ByteArray} {nL : Nat} {S : ch_S} {μ : ch_M} {kc ks pc : Nat} {L : List (Nat × Value)} {st : List Value} (h : ch_H X E RX8 cc nL) {k i : Nat} {x : Int32} (hv : S.2.1 k 3 i) (hd : decode cc pc = .ok (.putfield 192, 3)) (kk : ch_W X E nL S (ch_st μ k 3 i 9 x) kc ks (pc + 3) L st) : ch_W X E nL S μ kc ks pc L (.int x :: .ref (S.1 k 3 i) :: st) :=
  ca_puti (ci := 2) (j := 9) (ty := .int) h rfl rfl li_X2 tyX2 tyX2_ok nmX2 rfl hv (by decide) rfl kw_208 rfl (by decide +kernel) rfl rfl (fun z => absurd z (by decide)) hd kk
theorem gi_X8_195 {X : ch_X} {E : ch_E} {cc : ByteArray} {nL : Nat} {S : ch_S} {μ : ch_M} {kc ks pc : Nat} {L : List (Nat × Value)} {st : List Value} (h : ch_H X E RX8 cc nL) {k i : Nat} (hv : S.2.1 k 0 i) (hd : decode cc pc = .ok (.getfield 195, 3)) (kk : ch_W X E nL S μ kc ks (pc + 3) L (.int (μ k 0 i 7) :: st)) : ch_W X E nL S μ kc ks pc L (.ref (S.1 k 0 i) :: st) :=
  ca_geti (ci := 3) (j := 7) h rfl rfl li_X3 rfl hv (by decide) rfl kw_271 hd kk
theorem pi_X8_195 {X : ch_X} {E : ch_E} {cc : ByteArray} {nL : Nat} {S : ch_S} {μ : ch_M} {kc ks pc : Nat} {L : List (Nat × Value)} {st : List Value} (h : ch_H X E RX8 cc nL) {k i : Nat} {x : Int32} (hv : S.2.1 k 0 i) (hd : decode cc pc = .ok (.putfield 195, 3)) (kk : ch_W X E nL S (ch_st μ k 0 i 7 x) kc ks (pc + 3) L st) : ch_W X E nL S μ kc ks pc L (.int x :: .ref (S.1 k 0 i) :: st) :=
  ca_puti (ci := 3) (j := 7) (ty := .int) h rfl rfl li_X3 tyX3 tyX3_ok nmX3 rfl hv (by decide) rfl kw_271 rfl (by decide +kernel) rfl rfl (fun z => absurd z (by decide)) hd kk
theorem gr_X9_9 {X : ch_X} {E : ch_E} {cc : ByteArray} {nL : Nat} {S : ch_S} {μ : ch_M} {kc ks pc : Nat} {L : List (Nat × Value)} {st : List Value} (h : ch_H X E RX9 cc nL) {k i : Nat} {r : Option Nat} (hv : S.2.1 k 20 i) (hx : S.2.2 k 20 i 0 = r) (hd : decode cc pc = .ok (.getfield 9, 3)) (kk : ch_W X E nL S μ kc ks (pc + 3) L (va_rf r :: st)) : ch_W X E nL S μ kc ks pc L (.ref (S.1 k 20 i) :: st) :=
  ca_getr (ci := 9) (j := 0) h rfl rfl li_X9 rfl hv (by decide) rfl kw_377 hx hd kk
theorem gs_X9_9 {X : ch_X} {E : ch_E} {cc : ByteArray} {nL : Nat} {S : ch_S} {μ : ch_M} {kc ks pc : Nat} {L : List (Nat × Value)} {st : List Value} (h : ch_H X E RX9 cc nL) {k i : Nat} (hs : ch_Std E S) (hv : ch_V k 20 i) (hd : decode cc pc = .ok (.getfield 9, 3)) (kk : ch_W X E nL S μ kc ks (pc + 3) L (.ref (S.1 15 21 0) :: st)) : ch_W X E nL S μ kc ks pc L (.ref (S.1 k 20 i) :: st) :=
  gr_X9_9 h (hs.1 _ _ _ hv) (hs.2.1 k 20 i 0 _ hv rfl) hd kk
theorem gi_X9_31 {X : ch_X} {E : ch_E} {cc : ByteArray} {nL : Nat} {S : ch_S} {μ : ch_M} {kc ks pc : Nat} {L : List (Nat × Value)} {st : List Value} (h : ch_H X E RX9 cc nL) {k i : Nat} (hv : S.2.1 k 0 i) (hd : decode cc pc = .ok (.getfield 31, 3)) (kk : ch_W X E nL S μ kc ks (pc + 3) L (.int (μ k 0 i 0) :: st)) : ch_W X E nL S μ kc ks pc L (.ref (S.1 k 0 i) :: st) :=
  ca_geti (ci := 3) (j := 0) h rfl rfl li_X3 rfl hv (by decide) rfl kw_245 hd kk
theorem pi_X9_31 {X : ch_X} {E : ch_E} {cc : ByteArray} {nL : Nat} {S : ch_S} {μ : ch_M} {kc ks pc : Nat} {L : List (Nat × Value)} {st : List Value} (h : ch_H X E RX9 cc nL) {k i : Nat} {x : Int32} (hv : S.2.1 k 0 i) (hd : decode cc pc = .ok (.putfield 31, 3)) (kk : ch_W X E nL S (ch_st μ k 0 i 0 x) kc ks (pc + 3) L st) : ch_W X E nL S μ kc ks pc L (.int x :: .ref (S.1 k 0 i) :: st) :=
  ca_puti (ci := 3) (j := 0) (ty := .int) h rfl rfl li_X3 tyX3 tyX3_ok nmX3 rfl hv (by decide) rfl kw_245 rfl (by decide +kernel) rfl rfl (fun z => absurd z (by decide)) hd kk
theorem gi_X9_39 {X : ch_X} {E : ch_E} {cc : ByteArray} {nL : Nat} {S : ch_S} {μ : ch_M} {kc ks pc : Nat} {L : List (Nat × Value)} {st : List Value} (h : ch_H X E RX9 cc nL) {k i : Nat} (hv : S.2.1 k 2 i) (hd : decode cc pc = .ok (.getfield 39, 3)) (kk : ch_W X E nL S μ kc ks (pc + 3) L (.int (μ k 2 i 0) :: st)) : ch_W X E nL S μ kc ks pc L (.ref (S.1 k 2 i) :: st) :=
  ca_geti (ci := 7) (j := 0) h rfl rfl li_X7 rfl hv (by decide) rfl kw_138 hd kk
theorem pi_X9_39 {X : ch_X} {E : ch_E} {cc : ByteArray} {nL : Nat} {S : ch_S} {μ : ch_M} {kc ks pc : Nat} {L : List (Nat × Value)} {st : List Value} (h : ch_H X E RX9 cc nL) {k i : Nat} {x : Int32} (hv : S.2.1 k 2 i) (hx : x = 0 ∨ x = 1) (hd : decode cc pc = .ok (.putfield 39, 3)) (kk : ch_W X E nL S (ch_st μ k 2 i 0 x) kc ks (pc + 3) L st) : ch_W X E nL S μ kc ks pc L (.int x :: .ref (S.1 k 2 i) :: st) :=
  ca_puti (ci := 7) (j := 0) (ty := .boolean) h rfl rfl li_X7 tyX7 tyX7_ok nmX7 rfl hv (by decide) rfl kw_138 rfl (by decide +kernel) (by rcases hx with rfl | rfl <;> decide) (by rcases hx with rfl | rfl <;> decide) (fun _ => hx) hd kk
theorem gi_X10_9 {X : ch_X} {E : ch_E} {cc : ByteArray} {nL : Nat} {S : ch_S} {μ : ch_M} {kc ks pc : Nat} {L : List (Nat × Value)} {st : List Value} (h : ch_H X E RX10 cc nL) {k i : Nat} (hv : S.2.1 k 12 i) (hd : decode cc pc = .ok (.getfield 9, 3)) (kk : ch_W X E nL S μ kc ks (pc + 3) L (.int (μ k 12 i 2) :: st)) : ch_W X E nL S μ kc ks pc L (.ref (S.1 k 12 i) :: st) :=
  ca_geti (ci := 10) (j := 2) h rfl rfl li_X10 rfl hv (by decide) rfl kw_45 hd kk
theorem pi_X10_9 {X : ch_X} {E : ch_E} {cc : ByteArray} {nL : Nat} {S : ch_S} {μ : ch_M} {kc ks pc : Nat} {L : List (Nat × Value)} {st : List Value} (h : ch_H X E RX10 cc nL) {k i : Nat} {x : Int32} (hv : S.2.1 k 12 i) (hd : decode cc pc = .ok (.putfield 9, 3)) (kk : ch_W X E nL S (ch_st μ k 12 i 2 x) kc ks (pc + 3) L st) : ch_W X E nL S μ kc ks pc L (.int x :: .ref (S.1 k 12 i) :: st) :=
  ca_puti (ci := 10) (j := 2) (ty := .int) h rfl rfl li_X10 tyX10 tyX10_ok nmX10 rfl hv (by decide) rfl kw_45 rfl (by decide +kernel) rfl rfl (fun z => absurd z (by decide)) hd kk
theorem gr_X10_15 {X : ch_X} {E : ch_E} {cc : ByteArray} {nL : Nat} {S : ch_S} {μ : ch_M} {kc ks pc : Nat} {L : List (Nat × Value)} {st : List Value} (h : ch_H X E RX10 cc nL) {k i : Nat} {r : Option Nat} (hv : S.2.1 k 12 i) (hx : S.2.2 k 12 i 3 = r) (hd : decode cc pc = .ok (.getfield 15, 3)) (kk : ch_W X E nL S μ kc ks (pc + 3) L (va_rf r :: st)) : ch_W X E nL S μ kc ks pc L (.ref (S.1 k 12 i) :: st) :=
  ca_getr (ci := 10) (j := 3) h rfl rfl li_X10 rfl hv (by decide) rfl kw_47 hx hd kk
theorem gs_X10_15 {X : ch_X} {E : ch_E} {cc : ByteArray} {nL : Nat} {S : ch_S} {μ : ch_M} {kc ks pc : Nat} {L : List (Nat × Value)} {st : List Value} (h : ch_H X E RX10 cc nL) {k i : Nat} (hs : ch_Std E S) (hv : ch_V k 12 i) (hd : decode cc pc = .ok (.getfield 15, 3)) (kk : ch_W X E nL S μ kc ks (pc + 3) L (.ref (S.1 15 13 0) :: st)) : ch_W X E nL S μ kc ks pc L (.ref (S.1 k 12 i) :: st) :=
  gr_X10_15 h (hs.1 _ _ _ hv) (hs.2.1 k 12 i 3 _ hv rfl) hd kk
theorem gi_X10_19 {X : ch_X} {E : ch_E} {cc : ByteArray} {nL : Nat} {S : ch_S} {μ : ch_M} {kc ks pc : Nat} {L : List (Nat × Value)} {st : List Value} (h : ch_H X E RX10 cc nL) {k i : Nat} (hv : S.2.1 k 12 i) (hd : decode cc pc = .ok (.getfield 19, 3)) (kk : ch_W X E nL S μ kc ks (pc + 3) L (.int (μ k 12 i 0) :: st)) : ch_W X E nL S μ kc ks pc L (.ref (S.1 k 12 i) :: st) :=
  ca_geti (ci := 10) (j := 0) h rfl rfl li_X10 rfl hv (by decide) rfl kw_42 hd kk
theorem pi_X10_19 {X : ch_X} {E : ch_E} {cc : ByteArray} {nL : Nat} {S : ch_S} {μ : ch_M} {kc ks pc : Nat} {L : List (Nat × Value)} {st : List Value} (h : ch_H X E RX10 cc nL) {k i : Nat} {x : Int32} (hv : S.2.1 k 12 i) (hd : decode cc pc = .ok (.putfield 19, 3)) (kk : ch_W X E nL S (ch_st μ k 12 i 0 x) kc ks (pc + 3) L st) : ch_W X E nL S μ kc ks pc L (.int x :: .ref (S.1 k 12 i) :: st) :=
  ca_puti (ci := 10) (j := 0) (ty := .int) h rfl rfl li_X10 tyX10 tyX10_ok nmX10 rfl hv (by decide) rfl kw_42 rfl (by decide +kernel) rfl rfl (fun z => absurd z (by decide)) hd kk
theorem gi_X10_22 {X : ch_X} {E : ch_E} {cc : ByteArray} {nL : Nat} {S : ch_S} {μ : ch_M} {kc ks pc : Nat} {L : List (Nat × Value)} {st : List Value} (h : ch_H X E RX10 cc nL) {k i : Nat} (hv : S.2.1 k 12 i) (hd : decode cc pc = .ok (.getfield 22, 3)) (kk : ch_W X E nL S μ kc ks (pc + 3) L (.int (μ k 12 i 4) :: st)) : ch_W X E nL S μ kc ks pc L (.ref (S.1 k 12 i) :: st) :=
  ca_geti (ci := 10) (j := 4) h rfl rfl li_X10 rfl hv (by decide) rfl kw_48 hd kk
theorem pi_X10_22 {X : ch_X} {E : ch_E} {cc : ByteArray} {nL : Nat} {S : ch_S} {μ : ch_M} {kc ks pc : Nat} {L : List (Nat × Value)} {st : List Value} (h : ch_H X E RX10 cc nL) {k i : Nat} {x : Int32} (hv : S.2.1 k 12 i) (hd : decode cc pc = .ok (.putfield 22, 3)) (kk : ch_W X E nL S (ch_st μ k 12 i 4 x) kc ks (pc + 3) L st) : ch_W X E nL S μ kc ks pc L (.int x :: .ref (S.1 k 12 i) :: st) :=
  ca_puti (ci := 10) (j := 4) (ty := .int) h rfl rfl li_X10 tyX10 tyX10_ok nmX10 rfl hv (by decide) rfl kw_48 rfl (by decide +kernel) rfl rfl (fun z => absurd z (by decide)) hd kk
theorem gi_X10_25 {X : ch_X} {E : ch_E} {cc : ByteArray} {nL : Nat} {S : ch_S} {μ : ch_M} {kc ks pc : Nat} {L : List (Nat × Value)} {st : List Value} (h : ch_H X E RX10 cc nL) {k i : Nat} (hv : S.2.1 k 12 i) (hd : decode cc pc = .ok (.getfield 25, 3)) (kk : ch_W X E nL S μ kc ks (pc + 3) L (.int (μ k 12 i 6) :: st)) : ch_W X E nL S μ kc ks pc L (.ref (S.1 k 12 i) :: st) :=
  ca_geti (ci := 10) (j := 6) h rfl rfl li_X10 rfl hv (by decide) rfl kw_50 hd kk
theorem pi_X10_25 {X : ch_X} {E : ch_E} {cc : ByteArray} {nL : Nat} {S : ch_S} {μ : ch_M} {kc ks pc : Nat} {L : List (Nat × Value)} {st : List Value} (h : ch_H X E RX10 cc nL) {k i : Nat} {x : Int32} (hv : S.2.1 k 12 i) (hd : decode cc pc = .ok (.putfield 25, 3)) (kk : ch_W X E nL S (ch_st μ k 12 i 6 x) kc ks (pc + 3) L st) : ch_W X E nL S μ kc ks pc L (.int x :: .ref (S.1 k 12 i) :: st) :=
  ca_puti (ci := 10) (j := 6) (ty := .int) h rfl rfl li_X10 tyX10 tyX10_ok nmX10 rfl hv (by decide) rfl kw_50 rfl (by decide +kernel) rfl rfl (fun z => absurd z (by decide)) hd kk
theorem gi_X10_28 {X : ch_X} {E : ch_E} {cc : ByteArray} {nL : Nat} {S : ch_S} {μ : ch_M} {kc ks pc : Nat} {L : List (Nat × Value)} {st : List Value} (h : ch_H X E RX10 cc nL) {k i : Nat} (hv : S.2.1 k 12 i) (hd : decode cc pc = .ok (.getfield 28, 3)) (kk : ch_W X E nL S μ kc ks (pc + 3) L (.int (μ k 12 i 1) :: st)) : ch_W X E nL S μ kc ks pc L (.ref (S.1 k 12 i) :: st) :=
  ca_geti (ci := 10) (j := 1) h rfl rfl li_X10 rfl hv (by decide) rfl kw_43 hd kk
theorem pi_X10_28 {X : ch_X} {E : ch_E} {cc : ByteArray} {nL : Nat} {S : ch_S} {μ : ch_M} {kc ks pc : Nat} {L : List (Nat × Value)} {st : List Value} (h : ch_H X E RX10 cc nL) {k i : Nat} {x : Int32} (hv : S.2.1 k 12 i) (hd : decode cc pc = .ok (.putfield 28, 3)) (kk : ch_W X E nL S (ch_st μ k 12 i 1 x) kc ks (pc + 3) L st) : ch_W X E nL S μ kc ks pc L (.int x :: .ref (S.1 k 12 i) :: st) :=
  ca_puti (ci := 10) (j := 1) (ty := .int) h rfl rfl li_X10 tyX10 tyX10_ok nmX10 rfl hv (by decide) rfl kw_43 rfl (by decide +kernel) rfl rfl (fun z => absurd z (by decide)) hd kk
theorem gi_X10_34 {X : ch_X} {E : ch_E} {cc : ByteArray} {nL : Nat} {S : ch_S} {μ : ch_M} {kc ks pc : Nat} {L : List (Nat × Value)} {st : List Value} (h : ch_H X E RX10 cc nL) {k i : Nat} (hv : S.2.1 k 12 i) (hd : decode cc pc = .ok (.getfield 34, 3)) (kk : ch_W X E nL S μ kc ks (pc + 3) L (.int (μ k 12 i 5) :: st)) : ch_W X E nL S μ kc ks pc L (.ref (S.1 k 12 i) :: st) :=
  ca_geti (ci := 10) (j := 5) h rfl rfl li_X10 rfl hv (by decide) rfl kw_49 hd kk
theorem pi_X10_34 {X : ch_X} {E : ch_E} {cc : ByteArray} {nL : Nat} {S : ch_S} {μ : ch_M} {kc ks pc : Nat} {L : List (Nat × Value)} {st : List Value} (h : ch_H X E RX10 cc nL) {k i : Nat} {x : Int32} (hv : S.2.1 k 12 i) (hd : decode cc pc = .ok (.putfield 34, 3)) (kk : ch_W X E nL S (ch_st μ k 12 i 5 x) kc ks (pc + 3) L st) : ch_W X E nL S μ kc ks pc L (.int x :: .ref (S.1 k 12 i) :: st) :=
  ca_puti (ci := 10) (j := 5) (ty := .int) h rfl rfl li_X10 tyX10 tyX10_ok nmX10 rfl hv (by decide) rfl kw_49 rfl (by decide +kernel) rfl rfl (fun z => absurd z (by decide)) hd kk
theorem gi_X10_50 {X : ch_X} {E : ch_E} {cc : ByteArray} {nL : Nat} {S : ch_S} {μ : ch_M} {kc ks pc : Nat} {L : List (Nat × Value)} {st : List Value} (h : ch_H X E RX10 cc nL) {k i : Nat} (hv : S.2.1 k 12 i) (hd : decode cc pc = .ok (.getfield 50, 3)) (kk : ch_W X E nL S μ kc ks (pc + 3) L (.int (μ k 12 i 7) :: st)) : ch_W X E nL S μ kc ks pc L (.ref (S.1 k 12 i) :: st) :=
  ca_geti (ci := 10) (j := 7) h rfl rfl li_X10 rfl hv (by decide) rfl kw_51 hd kk
theorem pi_X10_50 {X : ch_X} {E : ch_E} {cc : ByteArray} {nL : Nat} {S : ch_S} {μ : ch_M} {kc ks pc : Nat} {L : List (Nat × Value)} {st : List Value} (h : ch_H X E RX10 cc nL) {k i : Nat} {x : Int32} (hv : S.2.1 k 12 i) (hd : decode cc pc = .ok (.putfield 50, 3)) (kk : ch_W X E nL S (ch_st μ k 12 i 7 x) kc ks (pc + 3) L st) : ch_W X E nL S μ kc ks pc L (.int x :: .ref (S.1 k 12 i) :: st) :=
  ca_puti (ci := 10) (j := 7) (ty := .int) h rfl rfl li_X10 tyX10 tyX10_ok nmX10 rfl hv (by decide) rfl kw_51 rfl (by decide +kernel) rfl rfl (fun z => absurd z (by decide)) hd kk
theorem gr_X12_9 {X : ch_X} {E : ch_E} {cc : ByteArray} {nL : Nat} {S : ch_S} {μ : ch_M} {kc ks pc : Nat} {L : List (Nat × Value)} {st : List Value} (h : ch_H X E RX12 cc nL) {k i : Nat} {r : Option Nat} (hv : S.2.1 k 22 i) (hx : S.2.2 k 22 i 0 = r) (hd : decode cc pc = .ok (.getfield 9, 3)) (kk : ch_W X E nL S μ kc ks (pc + 3) L (va_rf r :: st)) : ch_W X E nL S μ kc ks pc L (.ref (S.1 k 22 i) :: st) :=
  ca_getr (ci := 12) (j := 0) h rfl rfl li_X12 rfl hv (by decide) rfl kw_1317 hx hd kk
theorem gs_X12_9 {X : ch_X} {E : ch_E} {cc : ByteArray} {nL : Nat} {S : ch_S} {μ : ch_M} {kc ks pc : Nat} {L : List (Nat × Value)} {st : List Value} (h : ch_H X E RX12 cc nL) {k i : Nat} (hs : ch_Std E S) (hv : ch_V k 22 i) (hd : decode cc pc = .ok (.getfield 9, 3)) (kk : ch_W X E nL S μ kc ks (pc + 3) L (.ref (S.1 16 23 0) :: st)) : ch_W X E nL S μ kc ks pc L (.ref (S.1 k 22 i) :: st) :=
  gr_X12_9 h (hs.1 _ _ _ hv) (hs.2.1 k 22 i 0 _ hv rfl) hd kk
theorem gr_X12_13 {X : ch_X} {E : ch_E} {cc : ByteArray} {nL : Nat} {S : ch_S} {μ : ch_M} {kc ks pc : Nat} {L : List (Nat × Value)} {st : List Value} (h : ch_H X E RX12 cc nL) {k i : Nat} {r : Option Nat} (hv : S.2.1 k 22 i) (hx : S.2.2 k 22 i 1 = r) (hd : decode cc pc = .ok (.getfield 13, 3)) (kk : ch_W X E nL S μ kc ks (pc + 3) L (va_rf r :: st)) : ch_W X E nL S μ kc ks pc L (.ref (S.1 k 22 i) :: st) :=
  ca_getr (ci := 12) (j := 1) h rfl rfl li_X12 rfl hv (by decide) rfl kw_1318 hx hd kk
theorem gs_X12_13 {X : ch_X} {E : ch_E} {cc : ByteArray} {nL : Nat} {S : ch_S} {μ : ch_M} {kc ks pc : Nat} {L : List (Nat × Value)} {st : List Value} (h : ch_H X E RX12 cc nL) {k i : Nat} (hs : ch_Std E S) (hv : ch_V k 22 i) (hd : decode cc pc = .ok (.getfield 13, 3)) (kk : ch_W X E nL S μ kc ks (pc + 3) L (.ref (S.1 16 24 0) :: st)) : ch_W X E nL S μ kc ks pc L (.ref (S.1 k 22 i) :: st) :=
  gr_X12_13 h (hs.1 _ _ _ hv) (hs.2.1 k 22 i 1 _ hv rfl) hd kk
theorem gr_X12_16 {X : ch_X} {E : ch_E} {cc : ByteArray} {nL : Nat} {S : ch_S} {μ : ch_M} {kc ks pc : Nat} {L : List (Nat × Value)} {st : List Value} (h : ch_H X E RX12 cc nL) {k i : Nat} {r : Option Nat} (hv : S.2.1 k 22 i) (hx : S.2.2 k 22 i 2 = r) (hd : decode cc pc = .ok (.getfield 16, 3)) (kk : ch_W X E nL S μ kc ks (pc + 3) L (va_rf r :: st)) : ch_W X E nL S μ kc ks pc L (.ref (S.1 k 22 i) :: st) :=
  ca_getr (ci := 12) (j := 2) h rfl rfl li_X12 rfl hv (by decide) rfl kw_1319 hx hd kk
theorem gs_X12_16 {X : ch_X} {E : ch_E} {cc : ByteArray} {nL : Nat} {S : ch_S} {μ : ch_M} {kc ks pc : Nat} {L : List (Nat × Value)} {st : List Value} (h : ch_H X E RX12 cc nL) {k i : Nat} (hs : ch_Std E S) (hv : ch_V k 22 i) (hd : decode cc pc = .ok (.getfield 16, 3)) (kk : ch_W X E nL S μ kc ks (pc + 3) L (.ref (S.1 16 25 0) :: st)) : ch_W X E nL S μ kc ks pc L (.ref (S.1 k 22 i) :: st) :=
  gr_X12_16 h (hs.1 _ _ _ hv) (hs.2.1 k 22 i 2 _ hv rfl) hd kk
theorem gr_X12_19 {X : ch_X} {E : ch_E} {cc : ByteArray} {nL : Nat} {S : ch_S} {μ : ch_M} {kc ks pc : Nat} {L : List (Nat × Value)} {st : List Value} (h : ch_H X E RX12 cc nL) {k i : Nat} {r : Option Nat} (hv : S.2.1 k 22 i) (hx : S.2.2 k 22 i 3 = r) (hd : decode cc pc = .ok (.getfield 19, 3)) (kk : ch_W X E nL S μ kc ks (pc + 3) L (va_rf r :: st)) : ch_W X E nL S μ kc ks pc L (.ref (S.1 k 22 i) :: st) :=
  ca_getr (ci := 12) (j := 3) h rfl rfl li_X12 rfl hv (by decide) rfl kw_1320 hx hd kk
theorem gs_X12_19 {X : ch_X} {E : ch_E} {cc : ByteArray} {nL : Nat} {S : ch_S} {μ : ch_M} {kc ks pc : Nat} {L : List (Nat × Value)} {st : List Value} (h : ch_H X E RX12 cc nL) {k i : Nat} (hs : ch_Std E S) (hv : ch_V k 22 i) (hd : decode cc pc = .ok (.getfield 19, 3)) (kk : ch_W X E nL S μ kc ks (pc + 3) L (.ref (S.1 16 26 0) :: st)) : ch_W X E nL S μ kc ks pc L (.ref (S.1 k 22 i) :: st) :=
  gr_X12_19 h (hs.1 _ _ _ hv) (hs.2.1 k 22 i 3 _ hv rfl) hd kk
theorem gr_X12_22 {X : ch_X} {E : ch_E} {cc : ByteArray} {nL : Nat} {S : ch_S} {μ : ch_M} {kc ks pc : Nat} {L : List (Nat × Value)} {st : List Value} (h : ch_H X E RX12 cc nL) {k i : Nat} {r : Option Nat} (hv : S.2.1 k 22 i) (hx : S.2.2 k 22 i 4 = r) (hd : decode cc pc = .ok (.getfield 22, 3)) (kk : ch_W X E nL S μ kc ks (pc + 3) L (va_rf r :: st)) : ch_W X E nL S μ kc ks pc L (.ref (S.1 k 22 i) :: st) :=
  ca_getr (ci := 12) (j := 4) h rfl rfl li_X12 rfl hv (by decide) rfl kw_1321 hx hd kk
theorem gs_X12_22 {X : ch_X} {E : ch_E} {cc : ByteArray} {nL : Nat} {S : ch_S} {μ : ch_M} {kc ks pc : Nat} {L : List (Nat × Value)} {st : List Value} (h : ch_H X E RX12 cc nL) {k i : Nat} (hs : ch_Std E S) (hv : ch_V k 22 i) (hd : decode cc pc = .ok (.getfield 22, 3)) (kk : ch_W X E nL S μ kc ks (pc + 3) L (.ref (S.1 16 27 0) :: st)) : ch_W X E nL S μ kc ks pc L (.ref (S.1 k 22 i) :: st) :=
  gr_X12_22 h (hs.1 _ _ _ hv) (hs.2.1 k 22 i 4 _ hv rfl) hd kk
theorem gr_X12_25 {X : ch_X} {E : ch_E} {cc : ByteArray} {nL : Nat} {S : ch_S} {μ : ch_M} {kc ks pc : Nat} {L : List (Nat × Value)} {st : List Value} (h : ch_H X E RX12 cc nL) {k i : Nat} {r : Option Nat} (hv : S.2.1 k 22 i) (hx : S.2.2 k 22 i 8 = r) (hd : decode cc pc = .ok (.getfield 25, 3)) (kk : ch_W X E nL S μ kc ks (pc + 3) L (va_rf r :: st)) : ch_W X E nL S μ kc ks pc L (.ref (S.1 k 22 i) :: st) :=
  ca_getr (ci := 12) (j := 8) h rfl rfl li_X12 rfl hv (by decide) rfl kw_1325 hx hd kk
theorem gs_X12_25 {X : ch_X} {E : ch_E} {cc : ByteArray} {nL : Nat} {S : ch_S} {μ : ch_M} {kc ks pc : Nat} {L : List (Nat × Value)} {st : List Value} (h : ch_H X E RX12 cc nL) {k i : Nat} (hs : ch_Std E S) (hv : ch_V k 22 i) (hd : decode cc pc = .ok (.getfield 25, 3)) (kk : ch_W X E nL S μ kc ks (pc + 3) L (.ref (S.1 16 28 0) :: st)) : ch_W X E nL S μ kc ks pc L (.ref (S.1 k 22 i) :: st) :=
  gr_X12_25 h (hs.1 _ _ _ hv) (hs.2.1 k 22 i 8 _ hv rfl) hd kk
theorem gr_X12_28 {X : ch_X} {E : ch_E} {cc : ByteArray} {nL : Nat} {S : ch_S} {μ : ch_M} {kc ks pc : Nat} {L : List (Nat × Value)} {st : List Value} (h : ch_H X E RX12 cc nL) {k i : Nat} {r : Option Nat} (hv : S.2.1 k 22 i) (hx : S.2.2 k 22 i 9 = r) (hd : decode cc pc = .ok (.getfield 28, 3)) (kk : ch_W X E nL S μ kc ks (pc + 3) L (va_rf r :: st)) : ch_W X E nL S μ kc ks pc L (.ref (S.1 k 22 i) :: st) :=
  ca_getr (ci := 12) (j := 9) h rfl rfl li_X12 rfl hv (by decide) rfl kw_1326 hx hd kk
theorem gs_X12_28 {X : ch_X} {E : ch_E} {cc : ByteArray} {nL : Nat} {S : ch_S} {μ : ch_M} {kc ks pc : Nat} {L : List (Nat × Value)} {st : List Value} (h : ch_H X E RX12 cc nL) {k i : Nat} (hs : ch_Std E S) (hv : ch_V k 22 i) (hd : decode cc pc = .ok (.getfield 28, 3)) (kk : ch_W X E nL S μ kc ks (pc + 3) L (.ref (S.1 16 29 0) :: st)) : ch_W X E nL S μ kc ks pc L (.ref (S.1 k 22 i) :: st) :=
  gr_X12_28 h (hs.1 _ _ _ hv) (hs.2.1 k 22 i 9 _ hv rfl) hd kk
theorem gr_X12_31 {X : ch_X} {E : ch_E} {cc : ByteArray} {nL : Nat} {S : ch_S} {μ : ch_M} {kc ks pc : Nat} {L : List (Nat × Value)} {st : List Value} (h : ch_H X E RX12 cc nL) {k i : Nat} {r : Option Nat} (hv : S.2.1 k 22 i) (hx : S.2.2 k 22 i 11 = r) (hd : decode cc pc = .ok (.getfield 31, 3)) (kk : ch_W X E nL S μ kc ks (pc + 3) L (va_rf r :: st)) : ch_W X E nL S μ kc ks pc L (.ref (S.1 k 22 i) :: st) :=
  ca_getr (ci := 12) (j := 11) h rfl rfl li_X12 rfl hv (by decide) rfl kw_1328 hx hd kk
theorem gs_X12_31 {X : ch_X} {E : ch_E} {cc : ByteArray} {nL : Nat} {S : ch_S} {μ : ch_M} {kc ks pc : Nat} {L : List (Nat × Value)} {st : List Value} (h : ch_H X E RX12 cc nL) {k i : Nat} (hs : ch_Std E S) (hv : ch_V k 22 i) (hd : decode cc pc = .ok (.getfield 31, 3)) (kk : ch_W X E nL S μ kc ks (pc + 3) L (.ref (S.1 16 30 0) :: st)) : ch_W X E nL S μ kc ks pc L (.ref (S.1 k 22 i) :: st) :=
  gr_X12_31 h (hs.1 _ _ _ hv) (hs.2.1 k 22 i 11 _ hv rfl) hd kk
theorem gi_X12_34 {X : ch_X} {E : ch_E} {cc : ByteArray} {nL : Nat} {S : ch_S} {μ : ch_M} {kc ks pc : Nat} {L : List (Nat × Value)} {st : List Value} (h : ch_H X E RX12 cc nL) {k i : Nat} (hv : S.2.1 k 22 i) (hd : decode cc pc = .ok (.getfield 34, 3)) (kk : ch_W X E nL S μ kc ks (pc + 3) L (.int (μ k 22 i 19) :: st)) : ch_W X E nL S μ kc ks pc L (.ref (S.1 k 22 i) :: st) :=
  ca_geti (ci := 12) (j := 19) h rfl rfl li_X12 rfl hv (by decide) rfl kw_1336 hd kk
theorem pi_X12_34 {X : ch_X} {E : ch_E} {cc : ByteArray} {nL : Nat} {S : ch_S} {μ : ch_M} {kc ks pc : Nat} {L : List (Nat × Value)} {st : List Value} (h : ch_H X E RX12 cc nL) {k i : Nat} {x : Int32} (hv : S.2.1 k 22 i) (hd : decode cc pc = .ok (.putfield 34, 3)) (kk : ch_W X E nL S (ch_st μ k 22 i 19 x) kc ks (pc + 3) L st) : ch_W X E nL S μ kc ks pc L (.int x :: .ref (S.1 k 22 i) :: st) :=
  ca_puti (ci := 12) (j := 19) (ty := .int) h rfl rfl li_X12 tyX12 tyX12_ok nmX12 rfl hv (by decide) rfl kw_1336 rfl (by decide +kernel) rfl rfl (fun z => absurd z (by decide)) hd kk
theorem gr_X12_56 {X : ch_X} {E : ch_E} {cc : ByteArray} {nL : Nat} {S : ch_S} {μ : ch_M} {kc ks pc : Nat} {L : List (Nat × Value)} {st : List Value} (h : ch_H X E RX12 cc nL) {k i : Nat} {r : Option Nat} (hv : S.2.1 k 22 i) (hx : S.2.2 k 22 i 21 = r) (hd : decode cc pc = .ok (.getfield 56, 3)) (kk : ch_W X E nL S μ kc ks (pc + 3) L (va_rf r :: st)) : ch_W X E nL S μ kc ks pc L (.ref (S.1 k 22 i) :: st) :=
  ca_getr (ci := 12) (j := 21) h rfl rfl li_X12 rfl hv (by decide) rfl kw_1338 hx hd kk
theorem gs_X12_56 {X : ch_X} {E : ch_E} {cc : ByteArray} {nL : Nat} {S : ch_S} {μ : ch_M} {kc ks pc : Nat} {L : List (Nat × Value)} {st : List Value} (h : ch_H X E RX12 cc nL) {k i : Nat} (hs : ch_Std E S) (hv : ch_V k 22 i) (hd : decode cc pc = .ok (.getfield 56, 3)) (kk : ch_W X E nL S μ kc ks (pc + 3) L (.ref (S.1 16 31 0) :: st)) : ch_W X E nL S μ kc ks pc L (.ref (S.1 k 22 i) :: st) :=
  gr_X12_56 h (hs.1 _ _ _ hv) (hs.2.1 k 22 i 21 _ hv rfl) hd kk
theorem gr_X12_60 {X : ch_X} {E : ch_E} {cc : ByteArray} {nL : Nat} {S : ch_S} {μ : ch_M} {kc ks pc : Nat} {L : List (Nat × Value)} {st : List Value} (h : ch_H X E RX12 cc nL) {k i : Nat} {r : Option Nat} (hv : S.2.1 k 22 i) (hx : S.2.2 k 22 i 22 = r) (hd : decode cc pc = .ok (.getfield 60, 3)) (kk : ch_W X E nL S μ kc ks (pc + 3) L (va_rf r :: st)) : ch_W X E nL S μ kc ks pc L (.ref (S.1 k 22 i) :: st) :=
  ca_getr (ci := 12) (j := 22) h rfl rfl li_X12 rfl hv (by decide) rfl kw_1339 hx hd kk
theorem gs_X12_60 {X : ch_X} {E : ch_E} {cc : ByteArray} {nL : Nat} {S : ch_S} {μ : ch_M} {kc ks pc : Nat} {L : List (Nat × Value)} {st : List Value} (h : ch_H X E RX12 cc nL) {k i : Nat} (hs : ch_Std E S) (hv : ch_V k 22 i) (hd : decode cc pc = .ok (.getfield 60, 3)) (kk : ch_W X E nL S μ kc ks (pc + 3) L (.ref (S.1 16 32 0) :: st)) : ch_W X E nL S μ kc ks pc L (.ref (S.1 k 22 i) :: st) :=
  gr_X12_60 h (hs.1 _ _ _ hv) (hs.2.1 k 22 i 22 _ hv rfl) hd kk
theorem gr_X12_63 {X : ch_X} {E : ch_E} {cc : ByteArray} {nL : Nat} {S : ch_S} {μ : ch_M} {kc ks pc : Nat} {L : List (Nat × Value)} {st : List Value} (h : ch_H X E RX12 cc nL) {k i : Nat} {r : Option Nat} (hv : S.2.1 k 22 i) (hx : S.2.2 k 22 i 23 = r) (hd : decode cc pc = .ok (.getfield 63, 3)) (kk : ch_W X E nL S μ kc ks (pc + 3) L (va_rf r :: st)) : ch_W X E nL S μ kc ks pc L (.ref (S.1 k 22 i) :: st) :=
  ca_getr (ci := 12) (j := 23) h rfl rfl li_X12 rfl hv (by decide) rfl kw_1340 hx hd kk
theorem gs_X12_63 {X : ch_X} {E : ch_E} {cc : ByteArray} {nL : Nat} {S : ch_S} {μ : ch_M} {kc ks pc : Nat} {L : List (Nat × Value)} {st : List Value} (h : ch_H X E RX12 cc nL) {k i : Nat} (hs : ch_Std E S) (hv : ch_V k 22 i) (hd : decode cc pc = .ok (.getfield 63, 3)) (kk : ch_W X E nL S μ kc ks (pc + 3) L (.ref (S.1 16 33 0) :: st)) : ch_W X E nL S μ kc ks pc L (.ref (S.1 k 22 i) :: st) :=
  gr_X12_63 h (hs.1 _ _ _ hv) (hs.2.1 k 22 i 23 _ hv rfl) hd kk
theorem gi_X12_70 {X : ch_X} {E : ch_E} {cc : ByteArray} {nL : Nat} {S : ch_S} {μ : ch_M} {kc ks pc : Nat} {L : List (Nat × Value)} {st : List Value} (h : ch_H X E RX12 cc nL) {k i : Nat} (hv : S.2.1 k 22 i) (hd : decode cc pc = .ok (.getfield 70, 3)) (kk : ch_W X E nL S μ kc ks (pc + 3) L (.int (μ k 22 i 6) :: st)) : ch_W X E nL S μ kc ks pc L (.ref (S.1 k 22 i) :: st) :=
  ca_geti (ci := 12) (j := 6) h rfl rfl li_X12 rfl hv (by decide) rfl kw_1323 hd kk
theorem pi_X12_70 {X : ch_X} {E : ch_E} {cc : ByteArray} {nL : Nat} {S : ch_S} {μ : ch_M} {kc ks pc : Nat} {L : List (Nat × Value)} {st : List Value} (h : ch_H X E RX12 cc nL) {k i : Nat} {x : Int32} (hv : S.2.1 k 22 i) (hd : decode cc pc = .ok (.putfield 70, 3)) (kk : ch_W X E nL S (ch_st μ k 22 i 6 x) kc ks (pc + 3) L st) : ch_W X E nL S μ kc ks pc L (.int x :: .ref (S.1 k 22 i) :: st) :=
  ca_puti (ci := 12) (j := 6) (ty := .int) h rfl rfl li_X12 tyX12 tyX12_ok nmX12 rfl hv (by decide) rfl kw_1323 rfl (by decide +kernel) rfl rfl (fun z => absurd z (by decide)) hd kk
theorem gi_X12_207 {X : ch_X} {E : ch_E} {cc : ByteArray} {nL : Nat} {S : ch_S} {μ : ch_M} {kc ks pc : Nat} {L : List (Nat × Value)} {st : List Value} (h : ch_H X E RX12 cc nL) {k i : Nat} (hv : S.2.1 k 22 i) (hd : decode cc pc = .ok (.getfield 207, 3)) (kk : ch_W X E nL S μ kc ks (pc + 3) L (.int (μ k 22 i 10) :: st)) : ch_W X E nL S μ kc ks pc L (.ref (S.1 k 22 i) :: st) :=
  ca_geti (ci := 12) (j := 10) h rfl rfl li_X12 rfl hv (by decide) rfl kw_1327 hd kk
theorem pi_X12_207 {X : ch_X} {E : ch_E} {cc : ByteArray} {nL : Nat} {S : ch_S} {μ : ch_M} {kc ks pc : Nat} {L : List (Nat × Value)} {st : List Value} (h : ch_H X E RX12 cc nL) {k i : Nat} {x : Int32} (hv : S.2.1 k 22 i) (hd : decode cc pc = .ok (.putfield 207, 3)) (kk : ch_W X E nL S (ch_st μ k 22 i 10 x) kc ks (pc + 3) L st) : ch_W X E nL S μ kc ks pc L (.int x :: .ref (S.1 k 22 i) :: st) :=
  ca_puti (ci := 12) (j := 10) (ty := .int) h rfl rfl li_X12 tyX12 tyX12_ok nmX12 rfl hv (by decide) rfl kw_1327 rfl (by decide +kernel) rfl rfl (fun z => absurd z (by decide)) hd kk
theorem gi_X12_270 {X : ch_X} {E : ch_E} {cc : ByteArray} {nL : Nat} {S : ch_S} {μ : ch_M} {kc ks pc : Nat} {L : List (Nat × Value)} {st : List Value} (h : ch_H X E RX12 cc nL) {k i : Nat} (hv : S.2.1 k 22 i) (hd : decode cc pc = .ok (.getfield 270, 3)) (kk : ch_W X E nL S μ kc ks (pc + 3) L (.int (μ k 22 i 5) :: st)) : ch_W X E nL S μ kc ks pc L (.ref (S.1 k 22 i) :: st) :=
  ca_geti (ci := 12) (j := 5) h rfl rfl li_X12 rfl hv (by decide) rfl kw_1322 hd kk
theorem pi_X12_270 {X : ch_X} {E : ch_E} {cc : ByteArray} {nL : Nat} {S : ch_S} {μ : ch_M} {kc ks pc : Nat} {L : List (Nat × Value)} {st : List Value} (h : ch_H X E RX12 cc nL) {k i : Nat} {x : Int32} (hv : S.2.1 k 22 i) (hd : decode cc pc = .ok (.putfield 270, 3)) (kk : ch_W X E nL S (ch_st μ k 22 i 5 x) kc ks (pc + 3) L st) : ch_W X E nL S μ kc ks pc L (.int x :: .ref (S.1 k 22 i) :: st) :=
  ca_puti (ci := 12) (j := 5) (ty := .int) h rfl rfl li_X12 tyX12 tyX12_ok nmX12 rfl hv (by decide) rfl kw_1322 rfl (by decide +kernel) rfl rfl (fun z => absurd z (by decide)) hd kk
theorem gi_X12_273 {X : ch_X} {E : ch_E} {cc : ByteArray} {nL : Nat} {S : ch_S} {μ : ch_M} {kc ks pc : Nat} {L : List (Nat × Value)} {st : List Value} (h : ch_H X E RX12 cc nL) {k i : Nat} (hv : S.2.1 k 22 i) (hd : decode cc pc = .ok (.getfield 273, 3)) (kk : ch_W X E nL S μ kc ks (pc + 3) L (.int (μ k 22 i 7) :: st)) : ch_W X E nL S μ kc ks pc L (.ref (S.1 k 22 i) :: st) :=
  ca_geti (ci := 12) (j := 7) h rfl rfl li_X12 rfl hv (by decide) rfl kw_1324 hd kk
theorem pi_X12_273 {X : ch_X} {E : ch_E} {cc : ByteArray} {nL : Nat} {S : ch_S} {μ : ch_M} {kc ks pc : Nat} {L : List (Nat × Value)} {st : List Value} (h : ch_H X E RX12 cc nL) {k i : Nat} {x : Int32} (hv : S.2.1 k 22 i) (hx : x = 0 ∨ x = 1) (hd : decode cc pc = .ok (.putfield 273, 3)) (kk : ch_W X E nL S (ch_st μ k 22 i 7 x) kc ks (pc + 3) L st) : ch_W X E nL S μ kc ks pc L (.int x :: .ref (S.1 k 22 i) :: st) :=
  ca_puti (ci := 12) (j := 7) (ty := .boolean) h rfl rfl li_X12 tyX12 tyX12_ok nmX12 rfl hv (by decide) rfl kw_1324 rfl (by decide +kernel) (by rcases hx with rfl | rfl <;> decide) (by rcases hx with rfl | rfl <;> decide) (fun _ => hx) hd kk
theorem gi_X12_277 {X : ch_X} {E : ch_E} {cc : ByteArray} {nL : Nat} {S : ch_S} {μ : ch_M} {kc ks pc : Nat} {L : List (Nat × Value)} {st : List Value} (h : ch_H X E RX12 cc nL) {k i : Nat} (hv : S.2.1 k 22 i) (hd : decode cc pc = .ok (.getfield 277, 3)) (kk : ch_W X E nL S μ kc ks (pc + 3) L (.int (μ k 22 i 12) :: st)) : ch_W X E nL S μ kc ks pc L (.ref (S.1 k 22 i) :: st) :=
  ca_geti (ci := 12) (j := 12) h rfl rfl li_X12 rfl hv (by decide) rfl kw_1329 hd kk
theorem pi_X12_277 {X : ch_X} {E : ch_E} {cc : ByteArray} {nL : Nat} {S : ch_S} {μ : ch_M} {kc ks pc : Nat} {L : List (Nat × Value)} {st : List Value} (h : ch_H X E RX12 cc nL) {k i : Nat} {x : Int32} (hv : S.2.1 k 22 i) (hd : decode cc pc = .ok (.putfield 277, 3)) (kk : ch_W X E nL S (ch_st μ k 22 i 12 x) kc ks (pc + 3) L st) : ch_W X E nL S μ kc ks pc L (.int x :: .ref (S.1 k 22 i) :: st) :=
  ca_puti (ci := 12) (j := 12) (ty := .int) h rfl rfl li_X12 tyX12 tyX12_ok nmX12 rfl hv (by decide) rfl kw_1329 rfl (by decide +kernel) rfl rfl (fun z => absurd z (by decide)) hd kk
theorem gi_X12_280 {X : ch_X} {E : ch_E} {cc : ByteArray} {nL : Nat} {S : ch_S} {μ : ch_M} {kc ks pc : Nat} {L : List (Nat × Value)} {st : List Value} (h : ch_H X E RX12 cc nL) {k i : Nat} (hv : S.2.1 k 22 i) (hd : decode cc pc = .ok (.getfield 280, 3)) (kk : ch_W X E nL S μ kc ks (pc + 3) L (.int (μ k 22 i 13) :: st)) : ch_W X E nL S μ kc ks pc L (.ref (S.1 k 22 i) :: st) :=
  ca_geti (ci := 12) (j := 13) h rfl rfl li_X12 rfl hv (by decide) rfl kw_1330 hd kk
theorem pi_X12_280 {X : ch_X} {E : ch_E} {cc : ByteArray} {nL : Nat} {S : ch_S} {μ : ch_M} {kc ks pc : Nat} {L : List (Nat × Value)} {st : List Value} (h : ch_H X E RX12 cc nL) {k i : Nat} {x : Int32} (hv : S.2.1 k 22 i) (hd : decode cc pc = .ok (.putfield 280, 3)) (kk : ch_W X E nL S (ch_st μ k 22 i 13 x) kc ks (pc + 3) L st) : ch_W X E nL S μ kc ks pc L (.int x :: .ref (S.1 k 22 i) :: st) :=
  ca_puti (ci := 12) (j := 13) (ty := .int) h rfl rfl li_X12 tyX12 tyX12_ok nmX12 rfl hv (by decide) rfl kw_1330 rfl (by decide +kernel) rfl rfl (fun z => absurd z (by decide)) hd kk
theorem gi_X12_286 {X : ch_X} {E : ch_E} {cc : ByteArray} {nL : Nat} {S : ch_S} {μ : ch_M} {kc ks pc : Nat} {L : List (Nat × Value)} {st : List Value} (h : ch_H X E RX12 cc nL) {k i : Nat} (hv : S.2.1 k 22 i) (hd : decode cc pc = .ok (.getfield 286, 3)) (kk : ch_W X E nL S μ kc ks (pc + 3) L (.int (μ k 22 i 14) :: st)) : ch_W X E nL S μ kc ks pc L (.ref (S.1 k 22 i) :: st) :=
  ca_geti (ci := 12) (j := 14) h rfl rfl li_X12 rfl hv (by decide) rfl kw_1331 hd kk
theorem pi_X12_286 {X : ch_X} {E : ch_E} {cc : ByteArray} {nL : Nat} {S : ch_S} {μ : ch_M} {kc ks pc : Nat} {L : List (Nat × Value)} {st : List Value} (h : ch_H X E RX12 cc nL) {k i : Nat} {x : Int32} (hv : S.2.1 k 22 i) (hd : decode cc pc = .ok (.putfield 286, 3)) (kk : ch_W X E nL S (ch_st μ k 22 i 14 x) kc ks (pc + 3) L st) : ch_W X E nL S μ kc ks pc L (.int x :: .ref (S.1 k 22 i) :: st) :=
  ca_puti (ci := 12) (j := 14) (ty := .int) h rfl rfl li_X12 tyX12 tyX12_ok nmX12 rfl hv (by decide) rfl kw_1331 rfl (by decide +kernel) rfl rfl (fun z => absurd z (by decide)) hd kk
theorem gi_X12_289 {X : ch_X} {E : ch_E} {cc : ByteArray} {nL : Nat} {S : ch_S} {μ : ch_M} {kc ks pc : Nat} {L : List (Nat × Value)} {st : List Value} (h : ch_H X E RX12 cc nL) {k i : Nat} (hv : S.2.1 k 22 i) (hd : decode cc pc = .ok (.getfield 289, 3)) (kk : ch_W X E nL S μ kc ks (pc + 3) L (.int (μ k 22 i 15) :: st)) : ch_W X E nL S μ kc ks pc L (.ref (S.1 k 22 i) :: st) :=
  ca_geti (ci := 12) (j := 15) h rfl rfl li_X12 rfl hv (by decide) rfl kw_1332 hd kk
theorem pi_X12_289 {X : ch_X} {E : ch_E} {cc : ByteArray} {nL : Nat} {S : ch_S} {μ : ch_M} {kc ks pc : Nat} {L : List (Nat × Value)} {st : List Value} (h : ch_H X E RX12 cc nL) {k i : Nat} {x : Int32} (hv : S.2.1 k 22 i) (hd : decode cc pc = .ok (.putfield 289, 3)) (kk : ch_W X E nL S (ch_st μ k 22 i 15 x) kc ks (pc + 3) L st) : ch_W X E nL S μ kc ks pc L (.int x :: .ref (S.1 k 22 i) :: st) :=
  ca_puti (ci := 12) (j := 15) (ty := .int) h rfl rfl li_X12 tyX12 tyX12_ok nmX12 rfl hv (by decide) rfl kw_1332 rfl (by decide +kernel) rfl rfl (fun z => absurd z (by decide)) hd kk
theorem gi_X12_292 {X : ch_X} {E : ch_E} {cc : ByteArray} {nL : Nat} {S : ch_S} {μ : ch_M} {kc ks pc : Nat} {L : List (Nat × Value)} {st : List Value} (h : ch_H X E RX12 cc nL) {k i : Nat} (hv : S.2.1 k 22 i) (hd : decode cc pc = .ok (.getfield 292, 3)) (kk : ch_W X E nL S μ kc ks (pc + 3) L (.int (μ k 22 i 16) :: st)) : ch_W X E nL S μ kc ks pc L (.ref (S.1 k 22 i) :: st) :=
  ca_geti (ci := 12) (j := 16) h rfl rfl li_X12 rfl hv (by decide) rfl kw_1333 hd kk
theorem pi_X12_292 {X : ch_X} {E : ch_E} {cc : ByteArray} {nL : Nat} {S : ch_S} {μ : ch_M} {kc ks pc : Nat} {L : List (Nat × Value)} {st : List Value} (h : ch_H X E RX12 cc nL) {k i : Nat} {x : Int32} (hv : S.2.1 k 22 i) (hd : decode cc pc = .ok (.putfield 292, 3)) (kk : ch_W X E nL S (ch_st μ k 22 i 16 x) kc ks (pc + 3) L st) : ch_W X E nL S μ kc ks pc L (.int x :: .ref (S.1 k 22 i) :: st) :=
  ca_puti (ci := 12) (j := 16) (ty := .int) h rfl rfl li_X12 tyX12 tyX12_ok nmX12 rfl hv (by decide) rfl kw_1333 rfl (by decide +kernel) rfl rfl (fun z => absurd z (by decide)) hd kk
theorem gi_X12_301 {X : ch_X} {E : ch_E} {cc : ByteArray} {nL : Nat} {S : ch_S} {μ : ch_M} {kc ks pc : Nat} {L : List (Nat × Value)} {st : List Value} (h : ch_H X E RX12 cc nL) {k i : Nat} (hv : S.2.1 k 22 i) (hd : decode cc pc = .ok (.getfield 301, 3)) (kk : ch_W X E nL S μ kc ks (pc + 3) L (.int (μ k 22 i 17) :: st)) : ch_W X E nL S μ kc ks pc L (.ref (S.1 k 22 i) :: st) :=
  ca_geti (ci := 12) (j := 17) h rfl rfl li_X12 rfl hv (by decide) rfl kw_1334 hd kk
theorem pi_X12_301 {X : ch_X} {E : ch_E} {cc : ByteArray} {nL : Nat} {S : ch_S} {μ : ch_M} {kc ks pc : Nat} {L : List (Nat × Value)} {st : List Value} (h : ch_H X E RX12 cc nL) {k i : Nat} {x : Int32} (hv : S.2.1 k 22 i) (hd : decode cc pc = .ok (.putfield 301, 3)) (kk : ch_W X E nL S (ch_st μ k 22 i 17 x) kc ks (pc + 3) L st) : ch_W X E nL S μ kc ks pc L (.int x :: .ref (S.1 k 22 i) :: st) :=
  ca_puti (ci := 12) (j := 17) (ty := .int) h rfl rfl li_X12 tyX12 tyX12_ok nmX12 rfl hv (by decide) rfl kw_1334 rfl (by decide +kernel) rfl rfl (fun z => absurd z (by decide)) hd kk
theorem gi_X12_304 {X : ch_X} {E : ch_E} {cc : ByteArray} {nL : Nat} {S : ch_S} {μ : ch_M} {kc ks pc : Nat} {L : List (Nat × Value)} {st : List Value} (h : ch_H X E RX12 cc nL) {k i : Nat} (hv : S.2.1 k 22 i) (hd : decode cc pc = .ok (.getfield 304, 3)) (kk : ch_W X E nL S μ kc ks (pc + 3) L (.int (μ k 22 i 20) :: st)) : ch_W X E nL S μ kc ks pc L (.ref (S.1 k 22 i) :: st) :=
  ca_geti (ci := 12) (j := 20) h rfl rfl li_X12 rfl hv (by decide) rfl kw_1337 hd kk
theorem pi_X12_304 {X : ch_X} {E : ch_E} {cc : ByteArray} {nL : Nat} {S : ch_S} {μ : ch_M} {kc ks pc : Nat} {L : List (Nat × Value)} {st : List Value} (h : ch_H X E RX12 cc nL) {k i : Nat} {x : Int32} (hv : S.2.1 k 22 i) (hd : decode cc pc = .ok (.putfield 304, 3)) (kk : ch_W X E nL S (ch_st μ k 22 i 20 x) kc ks (pc + 3) L st) : ch_W X E nL S μ kc ks pc L (.int x :: .ref (S.1 k 22 i) :: st) :=
  ca_puti (ci := 12) (j := 20) (ty := .int) h rfl rfl li_X12 tyX12 tyX12_ok nmX12 rfl hv (by decide) rfl kw_1337 rfl (by decide +kernel) rfl rfl (fun z => absurd z (by decide)) hd kk
theorem gi_X12_310 {X : ch_X} {E : ch_E} {cc : ByteArray} {nL : Nat} {S : ch_S} {μ : ch_M} {kc ks pc : Nat} {L : List (Nat × Value)} {st : List Value} (h : ch_H X E RX12 cc nL) {k i : Nat} (hv : S.2.1 k 22 i) (hd : decode cc pc = .ok (.getfield 310, 3)) (kk : ch_W X E nL S μ kc ks (pc + 3) L (.int (μ k 22 i 18) :: st)) : ch_W X E nL S μ kc ks pc L (.ref (S.1 k 22 i) :: st) :=
  ca_geti (ci := 12) (j := 18) h rfl rfl li_X12 rfl hv (by decide) rfl kw_1335 hd kk
theorem pi_X12_310 {X : ch_X} {E : ch_E} {cc : ByteArray} {nL : Nat} {S : ch_S} {μ : ch_M} {kc ks pc : Nat} {L : List (Nat × Value)} {st : List Value} (h : ch_H X E RX12 cc nL) {k i : Nat} {x : Int32} (hv : S.2.1 k 22 i) (hd : decode cc pc = .ok (.putfield 310, 3)) (kk : ch_W X E nL S (ch_st μ k 22 i 18 x) kc ks (pc + 3) L st) : ch_W X E nL S μ kc ks pc L (.int x :: .ref (S.1 k 22 i) :: st) :=
  ca_puti (ci := 12) (j := 18) (ty := .int) h rfl rfl li_X12 tyX12 tyX12_ok nmX12 rfl hv (by decide) rfl kw_1335 rfl (by decide +kernel) rfl rfl (fun z => absurd z (by decide)) hd kk
theorem gi_X12_376 {X : ch_X} {E : ch_E} {cc : ByteArray} {nL : Nat} {S : ch_S} {μ : ch_M} {kc ks pc : Nat} {L : List (Nat × Value)} {st : List Value} (h : ch_H X E RX12 cc nL) {k i : Nat} (hv : S.2.1 k 22 i) (hd : decode cc pc = .ok (.getfield 376, 3)) (kk : ch_W X E nL S μ kc ks (pc + 3) L (.int (μ k 22 i 24) :: st)) : ch_W X E nL S μ kc ks pc L (.ref (S.1 k 22 i) :: st) :=
  ca_geti (ci := 12) (j := 24) h rfl rfl li_X12 rfl hv (by decide) rfl kw_1341 hd kk
theorem pi_X12_376 {X : ch_X} {E : ch_E} {cc : ByteArray} {nL : Nat} {S : ch_S} {μ : ch_M} {kc ks pc : Nat} {L : List (Nat × Value)} {st : List Value} (h : ch_H X E RX12 cc nL) {k i : Nat} {x : Int32} (hv : S.2.1 k 22 i) (hd : decode cc pc = .ok (.putfield 376, 3)) (kk : ch_W X E nL S (ch_st μ k 22 i 24 x) kc ks (pc + 3) L st) : ch_W X E nL S μ kc ks pc L (.int x :: .ref (S.1 k 22 i) :: st) :=
  ca_puti (ci := 12) (j := 24) (ty := .int) h rfl rfl li_X12 tyX12 tyX12_ok nmX12 rfl hv (by decide) rfl kw_1341 rfl (by decide +kernel) rfl rfl (fun z => absurd z (by decide)) hd kk
theorem ml_X11_58 : ch_LV RX11 58 yX10_append cX10_append 3 none 1 := ⟨kw_410, kw_411, kw_412, kw_2, kw_413, by decide, by decide, by decide +kernel⟩
theorem ms_X11_62 : ch_LS RX11 62 yX11_requireRange cX11_requireRange 3 none 3 := ⟨kw_513, kw_514, kw_1, kw_515, by decide, by decide, by decide +kernel⟩
theorem ml_X11_66 : ch_LV RX11 66 yX10_open cX10_open 2 none 1 := ⟨kw_583, kw_584, kw_585, kw_2, kw_586, by decide, by decide, by decide +kernel⟩
theorem ml_X11_74 : ch_LV RX11 74 yX4_readNetwork cX4_readNetwork 2 none 0 := ⟨kw_612, kw_613, kw_614, kw_17, kw_615, by decide, by decide, by decide +kernel⟩
theorem ml_X11_77 : ch_LV RX11 77 yX10_close cX10_close 1 none 0 := ⟨kw_726, kw_727, kw_728, kw_2, kw_729, by decide, by decide, by decide +kernel⟩
theorem ml_X11_83 : ch_LV RX11 83 yX3_copyFrom cX3_copyFrom 4 none 1 := ⟨kw_496, kw_455, kw_456, kw_3, kw_457, by decide, by decide, by decide +kernel⟩
theorem ml_X11_87 : ch_LV RX11 87 yX1_forget cX1_forget 1 none 0 := ⟨kw_501, kw_502, kw_503, kw_7, kw_504, by decide, by decide, by decide +kernel⟩
theorem ml_X11_105 : ch_LV RX11 105 yX11_requireCell cX11_requireCell 2 none 1 := ⟨kw_738, kw_740, ks_7, kw_1, kw_741, by decide, by decide, by decide +kernel⟩
theorem ml_X11_108 : ch_LV RX11 108 yX3_relationAt cX3_relationAt 5 (some (FieldType.object "CellHandover$Relation")) 2 := ⟨kw_758, kw_467, kw_468, kw_3, kw_469, by decide, by decide, by decide +kernel⟩
theorem ml_X11_120 : ch_LV RX11 120 yX3_cellAt cX3_cellAt 3 (some (FieldType.object "CellHandover$Cell")) 1 := ⟨kw_766, kw_459, kw_460, kw_3, kw_461, by decide, by decide, by decide +kernel⟩
theorem ml_X11_124 : ch_LV RX11 124 yX0_levelAt cX0_levelAt 4 (some FieldType.int) 2 := ⟨kw_767, kw_768, kw_769, kw_4, kw_770, by decide, by decide, by decide +kernel⟩
theorem ml_X11_130 : ch_LV RX11 130 yX3_coveringCell cX3_coveringCell 4 (some FieldType.int) 2 := ⟨kw_784, kw_785, kw_786, kw_3, kw_787, by decide, by decide, by decide +kernel⟩
theorem ml_X11_133 : ch_LV RX11 133 yX9_countCovered cX9_countCovered 6 (some FieldType.int) 2 := ⟨kw_804, kw_805, kw_806, kw_10, kw_807, by decide, by decide, by decide +kernel⟩
theorem ml_X11_137 : ch_LV RX11 137 yX9_findMissing cX9_findMissing 6 (some FieldType.int) 2 := ⟨kw_816, kw_817, kw_818, kw_10, kw_819, by decide, by decide, by decide +kernel⟩
theorem ml_X11_140 : ch_LV RX11 140 yX1_record cX1_record 3 none 1 := ⟨kw_836, kw_837, kw_838, kw_7, kw_839, by decide, by decide, by decide +kernel⟩
theorem ml_X11_143 : ch_LV RX11 143 yX3_mobileAt cX3_mobileAt 3 (some (FieldType.object "CellHandover$Mobile")) 1 := ⟨kw_841, kw_475, kw_476, kw_3, kw_477, by decide, by decide, by decide +kernel⟩
theorem ml_X11_147 : ch_LV RX11 147 yX2_place cX2_place 5 none 4 := ⟨kw_842, kw_843, kw_844, kw_6, kw_845, by decide, by decide, by decide +kernel⟩
theorem ml_X11_153 : ch_LV RX11 153 yX11_requireMobile cX11_requireMobile 2 none 1 := ⟨kw_862, kw_864, ks_11, kw_1, kw_865, by decide, by decide, by decide +kernel⟩
theorem ml_X11_171 : ch_LV RX11 171 yX3_setUpCall cX3_setUpCall 5 (some FieldType.int) 3 := ⟨kw_874, kw_875, kw_876, kw_3, kw_877, by decide, by decide, by decide +kernel⟩
theorem ml_X11_175 : ch_LV RX11 175 yX2_becomeIdle cX2_becomeIdle 1 none 0 := ⟨kw_921, kw_847, kw_848, kw_6, kw_849, by decide, by decide, by decide +kernel⟩
theorem ml_X11_178 : ch_LV RX11 178 yX11_requireTicks cX11_requireTicks 3 none 2 := ⟨kw_936, kw_938, ks_13, kw_1, kw_939, by decide, by decide, by decide +kernel⟩
theorem ml_X11_182 : ch_LV RX11 182 yX3_totalOf cX3_totalOf 2 (some FieldType.int) 1 := ⟨kw_438, kw_439, kw_440, kw_3, kw_441, by decide, by decide, by decide +kernel⟩
theorem ml_X11_186 : ch_LV RX11 186 yX8_advance cX8_advance 4 none 2 := ⟨kw_941, kw_942, kw_943, kw_8, kw_944, by decide, by decide, by decide +kernel⟩
theorem ml_X11_199 : ch_LV RX11 199 yX2_averageOf cX2_averageOf 6 (some FieldType.int) 1 := ⟨kw_1119, kw_990, kw_991, kw_6, kw_992, by decide, by decide, by decide +kernel⟩
theorem ml_X11_202 : ch_LV RX11 202 yX2_reportsOf cX2_reportsOf 2 (some FieldType.int) 1 := ⟨kw_1127, kw_968, kw_969, kw_6, kw_970, by decide, by decide, by decide +kernel⟩
theorem ml_X11_205 : ch_LV RX11 205 yX2_isBarredAt cX2_isBarredAt 3 (some FieldType.boolean) 2 := ⟨kw_1135, kw_1019, kw_1020, kw_6, kw_1021, by decide, by decide, by decide +kernel⟩
theorem ms_X11_209 : ch_LS RX11 209 yX11_requireIndex cX11_requireIndex 1 none 1 := ⟨kw_1143, kw_1144, kw_1, kw_1145, by decide, by decide, by decide +kernel⟩
theorem ml_X11_212 : ch_LV RX11 212 yX8_candidateAt cX8_candidateAt 4 (some FieldType.int) 3 := ⟨kw_1147, kw_1148, kw_1149, kw_8, kw_1150, by decide, by decide, by decide +kernel⟩
theorem ml_X11_216 : ch_LV RX11 216 yX3_talkersIn cX3_talkersIn 5 (some FieldType.int) 1 := ⟨kw_1158, kw_883, kw_884, kw_3, kw_885, by decide, by decide, by decide +kernel⟩
theorem ml_X11_219 : ch_LV RX11 219 yX3_requestsAt cX3_requestsAt 4 (some FieldType.int) 1 := ⟨kw_1166, kw_903, kw_904, kw_3, kw_905, by decide, by decide, by decide +kernel⟩
theorem ml_X11_222 : ch_LV RX11 222 yX3_queuedMobile cX3_queuedMobile 4 (some FieldType.int) 2 := ⟨kw_1174, kw_999, kw_1000, kw_3, kw_1001, by decide, by decide, by decide +kernel⟩
theorem ml_X11_237 : ch_LV RX11 237 yX1_takeBack cX1_takeBack 4 none 1 := ⟨kw_450, kw_451, kw_452, kw_7, kw_453, by decide, by decide, by decide +kernel⟩
theorem ms_X11_240 : ch_LS RX11 240 yJ9_min_7cf53 cJ9_min_7cf53 2 (some FieldType.int) 2 := ⟨kw_485, kw_486, kw_16, kw_487, by decide, by decide, by decide +kernel⟩
theorem ml_X11_248 : ch_LV RX11 248 yX5_readQuery cX5_readQuery 3 (some FieldType.int) 0 := ⟨kw_1230, kw_1231, kw_1232, kw_25, kw_1233, by decide, by decide, by decide +kernel⟩
theorem ms_X0_13 : ch_LS RX0 13 yJ9_abs_0f7a4 cJ9_abs_0f7a4 1 (some FieldType.int) 1 := ⟨kw_771, kw_772, kw_16, kw_773, by decide, by decide, by decide +kernel⟩
theorem ms_X0_28 : ch_LS RX0 28 yJ9_max_7cf53 cJ9_max_7cf53 2 (some FieldType.int) 2 := ⟨kw_774, kw_775, kw_16, kw_776, by decide, by decide, by decide +kernel⟩
theorem ml_X1_25 : ch_LV RX1 25 yX3_copyFrom cX3_copyFrom 4 none 1 := ⟨kw_454, kw_455, kw_456, kw_3, kw_457, by decide, by decide, by decide +kernel⟩
theorem ms_X1_29 : ch_LS RX1 29 yJ9_min_7cf53 cJ9_min_7cf53 2 (some FieldType.int) 2 := ⟨kw_840, kw_486, kw_16, kw_487, by decide, by decide, by decide +kernel⟩
theorem ml_X2_40 : ch_LV RX2 40 yX2_becomeIdle cX2_becomeIdle 1 none 0 := ⟨kw_846, kw_847, kw_848, kw_6, kw_849, by decide, by decide, by decide +kernel⟩
theorem ml_X2_55 : ch_LV RX2 55 yX2_clearMeasurements cX2_clearMeasurements 1 none 0 := ⟨kw_850, kw_852, ks_10, kw_6, kw_853, by decide, by decide, by decide +kernel⟩
theorem ml_X2_58 : ch_LV RX2 58 yX2_makeRequest cX2_makeRequest 3 none 2 := ⟨kw_910, kw_911, kw_912, kw_6, kw_913, by decide, by decide, by decide +kernel⟩
theorem ml_X2_62 : ch_LV RX2 62 yX2_reportsOf cX2_reportsOf 2 (some FieldType.int) 1 := ⟨kw_967, kw_968, kw_969, kw_6, kw_970, by decide, by decide, by decide +kernel⟩
theorem ml_X2_66 : ch_LV RX2 66 yX2_dropOldest cX2_dropOldest 4 none 2 := ⟨kw_971, kw_973, ks_17, kw_6, kw_974, by decide, by decide, by decide +kernel⟩
theorem ms_X2_69 : ch_LS RX2 69 yJ7_fill_53178 cJ7_fill_53178 4 none 2 := ⟨kw_854, kw_625, kw_18, kw_626, by decide, by decide, by decide +kernel⟩
theorem ml_X3_48 : ch_LV RX3 48 yX3_setDefaults cX3_setDefaults 1 none 0 := ⟨kw_240, kw_242, ks_0, kw_3, kw_243, by decide, by decide, by decide +kernel⟩
theorem ml_X3_82 : ch_LV RX3 82 yX3_relationAt cX3_relationAt 5 (some (FieldType.object "CellHandover$Relation")) 2 := ⟨kw_466, kw_467, kw_468, kw_3, kw_469, by decide, by decide, by decide +kernel⟩
theorem ml_X3_86 : ch_LV RX3 86 yX7_clear cX7_clear 1 none 0 := ⟨kw_620, kw_621, kw_622, kw_5, kw_623, by decide, by decide, by decide +kernel⟩
theorem ms_X3_89 : ch_LS RX3 89 yJ7_fill_53178 cJ7_fill_53178 4 none 2 := ⟨kw_624, kw_625, kw_18, kw_626, by decide, by decide, by decide +kernel⟩
theorem ml_X3_95 : ch_LV RX3 95 yX3_cellAt cX3_cellAt 3 (some (FieldType.object "CellHandover$Cell")) 1 := ⟨kw_458, kw_459, kw_460, kw_3, kw_461, by decide, by decide, by decide +kernel⟩
theorem ml_X3_99 : ch_LV RX3 99 yX0_copyFrom cX0_copyFrom 2 none 1 := ⟨kw_462, kw_463, kw_464, kw_4, kw_465, by decide, by decide, by decide +kernel⟩
theorem ml_X3_103 : ch_LV RX3 103 yX7_copyFrom cX7_copyFrom 2 none 1 := ⟨kw_470, kw_471, kw_472, kw_5, kw_473, by decide, by decide, by decide +kernel⟩
theorem ml_X3_106 : ch_LV RX3 106 yX3_mobileAt cX3_mobileAt 3 (some (FieldType.object "CellHandover$Mobile")) 1 := ⟨kw_474, kw_475, kw_476, kw_3, kw_477, by decide, by decide, by decide +kernel⟩
theorem ml_X3_110 : ch_LV RX3 110 yX2_copyFrom cX2_copyFrom 2 none 1 := ⟨kw_478, kw_479, kw_480, kw_6, kw_481, by decide, by decide, by decide +kernel⟩
theorem ml_X3_117 : ch_LV RX3 117 yX0_levelAt cX0_levelAt 4 (some FieldType.int) 2 := ⟨kw_792, kw_768, kw_769, kw_4, kw_770, by decide, by decide, by decide +kernel⟩
theorem ml_X3_121 : ch_LV RX3 121 yX3_loudestCell cX3_loudestCell 7 (some FieldType.int) 2 := ⟨kw_788, kw_789, kw_790, kw_3, kw_791, by decide, by decide, by decide +kernel⟩
theorem ml_X3_124 : ch_LV RX3 124 yX3_canBeUsed cX3_canBeUsed 5 (some FieldType.boolean) 3 := ⟨kw_793, kw_795, ks_8, kw_3, kw_796, by decide, by decide, by decide +kernel⟩
theorem ml_X3_137 : ch_LV RX3 137 yX3_talkersIn cX3_talkersIn 5 (some FieldType.int) 1 := ⟨kw_882, kw_883, kw_884, kw_3, kw_885, by decide, by decide, by decide +kernel⟩
theorem ml_X3_147 : ch_LV RX3 147 yX3_requestsAt cX3_requestsAt 4 (some FieldType.int) 1 := ⟨kw_902, kw_903, kw_904, kw_3, kw_905, by decide, by decide, by decide +kernel⟩
theorem ml_X3_153 : ch_LV RX3 153 yX3_requestsBefore cX3_requestsBefore 5 (some FieldType.int) 1 := ⟨kw_1002, kw_1004, ks_21, kw_3, kw_1005, by decide, by decide, by decide +kernel⟩
theorem ml_X3_156 : ch_LV RX3 156 yX3_comesBefore cX3_comesBefore 5 (some FieldType.boolean) 2 := ⟨kw_1006, kw_1008, ks_22, kw_3, kw_1009, by decide, by decide, by decide +kernel⟩
theorem ml_X3_163 : ch_LV RX3 163 yX3_hasFreeChannel cX3_hasFreeChannel 2 (some FieldType.boolean) 1 := ⟨kw_878, kw_879, kw_880, kw_3, kw_881, by decide, by decide, by decide +kernel⟩
theorem ml_X3_173 : ch_LV RX3 173 yX3_retryCell cX3_retryCell 8 (some FieldType.int) 3 := ⟨kw_886, kw_888, ks_12, kw_3, kw_889, by decide, by decide, by decide +kernel⟩
theorem ml_X3_177 : ch_LV RX3 177 yX3_count cX3_count 2 none 1 := ⟨kw_890, kw_891, kw_892, kw_3, kw_893, by decide, by decide, by decide +kernel⟩
theorem ml_X3_184 : ch_LV RX3 184 yX2_beginToTalk cX2_beginToTalk 2 none 1 := ⟨kw_894, kw_895, kw_896, kw_6, kw_897, by decide, by decide, by decide +kernel⟩
theorem ml_X3_187 : ch_LV RX3 187 yX3_hasQueuePlace cX3_hasQueuePlace 2 (some FieldType.boolean) 1 := ⟨kw_898, kw_899, kw_900, kw_3, kw_901, by decide, by decide, by decide +kernel⟩
theorem ml_X3_190 : ch_LV RX3 190 yX2_waitForSetUp cX2_waitForSetUp 3 none 2 := ⟨kw_906, kw_907, kw_908, kw_6, kw_909, by decide, by decide, by decide +kernel⟩
theorem ml_X3_198 : ch_LV RX3 198 yX2_isBarredAt cX2_isBarredAt 3 (some FieldType.boolean) 2 := ⟨kw_1018, kw_1019, kw_1020, kw_6, kw_1021, by decide, by decide, by decide +kernel⟩
theorem ml_X3_201 : ch_LV RX3 201 yX2_bar cX2_bar 3 none 2 := ⟨kw_1022, kw_1023, kw_1024, kw_6, kw_1025, by decide, by decide, by decide +kernel⟩
theorem ml_X4_19 : ch_LV RX4 19 yX3_clear cX3_clear 3 none 0 := ⟨kw_616, kw_617, kw_618, kw_3, kw_619, by decide, by decide, by decide +kernel⟩
theorem ml_X4_24 : ch_LV RX4 24 yX10_goesOn cX10_goesOn 1 (some FieldType.boolean) 0 := ⟨kw_627, kw_628, kw_629, kw_2, kw_630, by decide, by decide, by decide +kernel⟩
theorem ml_X4_30 : ch_LV RX4 30 yX4_readClause cX4_readClause 1 none 0 := ⟨kw_631, kw_633, ks_3, kw_17, kw_634, by decide, by decide, by decide +kernel⟩
theorem ml_X4_35 : ch_LV RX4 35 yX10_expect cX10_expect 2 none 1 := ⟨kw_721, kw_722, kw_723, kw_2, kw_724, by decide, by decide, by decide +kernel⟩
theorem ml_X4_41 : ch_LV RX4 41 yX10_is cX10_is 3 (some FieldType.boolean) 1 := ⟨kw_636, kw_637, kw_638, kw_2, kw_639, by decide, by decide, by decide +kernel⟩
theorem ml_X4_45 : ch_LV RX4 45 yX4_readCell cX4_readCell 2 none 0 := ⟨kw_688, kw_690, ks_4, kw_17, kw_691, by decide, by decide, by decide +kernel⟩
theorem ml_X4_50 : ch_LV RX4 50 yX4_readRelation cX4_readRelation 4 none 0 := ⟨kw_709, kw_711, ks_5, kw_17, kw_712, by decide, by decide, by decide +kernel⟩
theorem ml_X4_55 : ch_LV RX4 55 yX4_readSettings cX4_readSettings 1 none 0 := ⟨kw_716, kw_718, ks_6, kw_17, kw_719, by decide, by decide, by decide +kernel⟩
theorem ml_X4_58 : ch_LV RX4 58 yX10_fail cX10_fail 2 none 1 := ⟨kw_692, kw_693, kw_694, kw_2, kw_695, by decide, by decide, by decide +kernel⟩
theorem ml_X4_66 : ch_LV RX4 66 yX10_advance cX10_advance 1 none 0 := ⟨kw_696, kw_588, kw_589, kw_2, kw_590, by decide, by decide, by decide +kernel⟩
theorem ml_X4_69 : ch_LV RX4 69 yX3_cellAt cX3_cellAt 3 (some (FieldType.object "CellHandover$Cell")) 1 := ⟨kw_697, kw_459, kw_460, kw_3, kw_461, by decide, by decide, by decide +kernel⟩
theorem ml_X4_73 : ch_LV RX4 73 yX10_takeNumber cX10_takeNumber 4 (some FieldType.int) 2 := ⟨kw_698, kw_699, kw_700, kw_2, kw_701, by decide, by decide, by decide +kernel⟩
theorem ml_X4_109 : ch_LV RX4 109 yX10_seeNumber cX10_seeNumber 5 (some FieldType.int) 2 := ⟨kw_713, kw_703, kw_704, kw_2, kw_705, by decide, by decide, by decide +kernel⟩
theorem ml_X4_112 : ch_LV RX4 112 yX3_relationAt cX3_relationAt 5 (some (FieldType.object "CellHandover$Relation")) 2 := ⟨kw_714, kw_467, kw_468, kw_3, kw_469, by decide, by decide, by decide +kernel⟩
theorem ml_X5_21 : ch_LV RX5 21 yX10_is cX10_is 3 (some FieldType.boolean) 1 := ⟨kw_1235, kw_637, kw_638, kw_2, kw_639, by decide, by decide, by decide +kernel⟩
theorem ml_X5_29 : ch_LV RX5 29 yX10_fail cX10_fail 2 none 1 := ⟨kw_1237, kw_693, kw_694, kw_2, kw_695, by decide, by decide, by decide +kernel⟩
theorem ml_X5_33 : ch_LV RX5 33 yX10_advance cX10_advance 1 none 0 := ⟨kw_1238, kw_588, kw_589, kw_2, kw_590, by decide, by decide, by decide +kernel⟩
theorem ml_X5_36 : ch_LV RX5 36 yX5_test cX5_test 7 (some FieldType.int) 1 := ⟨kw_1239, kw_1241, ks_31, kw_25, kw_1242, by decide, by decide, by decide +kernel⟩
theorem ml_X5_40 : ch_LV RX5 40 yX10_goesOn cX10_goesOn 1 (some FieldType.boolean) 0 := ⟨kw_1286, kw_628, kw_629, kw_2, kw_630, by decide, by decide, by decide +kernel⟩
theorem ms_X5_44 : ch_LS RX5 44 yJ6_bitCount_0f7a4 cJ6_bitCount_0f7a4 1 (some FieldType.int) 1 := ⟨kw_1287, kw_1288, kw_26, kw_1289, by decide, by decide, by decide +kernel⟩
theorem ml_X5_49 : ch_LV RX5 49 yX5_firstOf cX5_firstOf 3 (some FieldType.int) 1 := ⟨kw_1293, kw_1295, ks_37, kw_25, kw_1296, by decide, by decide, by decide +kernel⟩
theorem ml_X5_52 : ch_LV RX5 52 yX5_factor cX5_factor 4 (some FieldType.int) 1 := ⟨kw_1243, kw_1245, ks_32, kw_25, kw_1246, by decide, by decide, by decide +kernel⟩
theorem ml_X5_63 : ch_LV RX5 63 yX5_comparison cX5_comparison 9 (some FieldType.int) 0 := ⟨kw_1249, kw_1251, ks_33, kw_25, kw_1252, by decide, by decide, by decide +kernel⟩
theorem ml_X5_67 : ch_LV RX5 67 yX5_everyMobile cX5_everyMobile 1 (some FieldType.int) 0 := ⟨kw_1278, kw_1280, ks_36, kw_25, kw_1281, by decide, by decide, by decide +kernel⟩
theorem ml_X5_72 : ch_LV RX5 72 yX10_expect cX10_expect 2 none 1 := ⟨kw_1283, kw_722, kw_723, kw_2, kw_724, by decide, by decide, by decide +kernel⟩
theorem ml_X5_76 : ch_LV RX5 76 yX5_seeValue cX5_seeValue 2 (some FieldType.int) 0 := ⟨kw_1253, kw_1255, ks_34, kw_25, kw_1256, by decide, by decide, by decide +kernel⟩
theorem ml_X5_91 : ch_LV RX5 91 yX5_valueFor cX5_valueFor 4 (some FieldType.int) 2 := ⟨kw_1272, kw_1274, ks_35, kw_25, kw_1275, by decide, by decide, by decide +kernel⟩
theorem ms_X5_95 : ch_LS RX5 95 yX5_nameOf cX5_nameOf 1 (some (FieldType.object "java/lang/String")) 1 := ⟨kw_1257, kw_1258, kw_25, kw_1259, by decide, by decide, by decide +kernel⟩
theorem ml_X5_99 : ch_LV RX5 99 yX10_seeNumber cX10_seeNumber 5 (some FieldType.int) 2 := ⟨kw_1268, kw_703, kw_704, kw_2, kw_705, by decide, by decide, by decide +kernel⟩
theorem ml_X5_118 : ch_LV RX5 118 yX3_mobileAt cX3_mobileAt 3 (some (FieldType.object "CellHandover$Mobile")) 1 := ⟨kw_1276, kw_475, kw_476, kw_3, kw_477, by decide, by decide, by decide +kernel⟩
theorem ml_X5_136 : ch_LV RX5 136 yX2_reportsOf cX2_reportsOf 2 (some FieldType.int) 1 := ⟨kw_1277, kw_968, kw_969, kw_6, kw_970, by decide, by decide, by decide +kernel⟩
theorem ml_X6_31 : ch_LV RX6 31 yX2_averageOf cX2_averageOf 6 (some FieldType.int) 1 := ⟨kw_1039, kw_990, kw_991, kw_6, kw_992, by decide, by decide, by decide +kernel⟩
theorem ml_X6_35 : ch_LV RX6 35 yX3_cellAt cX3_cellAt 3 (some (FieldType.object "CellHandover$Cell")) 1 := ⟨kw_1040, kw_459, kw_460, kw_3, kw_461, by decide, by decide, by decide +kernel⟩
theorem ml_X6_49 : ch_LV RX6 49 yX6_marginOf cX6_marginOf 7 (some FieldType.int) 3 := ⟨kw_1041, kw_1043, ks_26, kw_9, kw_1044, by decide, by decide, by decide +kernel⟩
theorem ml_X6_53 : ch_LV RX6 53 yX6_insert cX6_insert 4 none 2 := ⟨kw_1048, kw_1050, ks_27, kw_9, kw_1051, by decide, by decide, by decide +kernel⟩
theorem ml_X6_57 : ch_LV RX6 57 yX3_relationAt cX3_relationAt 5 (some (FieldType.object "CellHandover$Relation")) 2 := ⟨kw_1045, kw_467, kw_468, kw_3, kw_469, by decide, by decide, by decide +kernel⟩
theorem ml_X6_66 : ch_LV RX6 66 yX2_reportsOf cX2_reportsOf 2 (some FieldType.int) 1 := ⟨kw_1046, kw_968, kw_969, kw_6, kw_970, by decide, by decide, by decide +kernel⟩
theorem ml_X6_75 : ch_LV RX6 75 yX2_isBarredAt cX2_isBarredAt 3 (some FieldType.boolean) 2 := ⟨kw_1047, kw_1019, kw_1020, kw_6, kw_1021, by decide, by decide, by decide +kernel⟩
theorem ml_X8_18 : ch_LV RX8 18 yX8_moveMobiles cX8_moveMobiles 4 none 1 := ⟨kw_945, kw_947, ks_14, kw_8, kw_948, by decide, by decide, by decide +kernel⟩
theorem ml_X8_22 : ch_LV RX8 22 yX8_measureLevels cX8_measureLevels 4 none 1 := ⟨kw_952, kw_954, ks_15, kw_8, kw_955, by decide, by decide, by decide +kernel⟩
theorem ml_X8_25 : ch_LV RX8 25 yX8_completeCalls cX8_completeCalls 4 none 1 := ⟨kw_979, kw_981, ks_18, kw_8, kw_982, by decide, by decide, by decide +kernel⟩
theorem ml_X8_28 : ch_LV RX8 28 yX8_dropCalls cX8_dropCalls 5 none 1 := ⟨kw_985, kw_987, ks_19, kw_8, kw_988, by decide, by decide, by decide +kernel⟩
theorem ml_X8_31 : ch_LV RX8 31 yX8_serveQueues cX8_serveQueues 5 none 1 := ⟨kw_993, kw_995, ks_20, kw_8, kw_996, by decide, by decide, by decide +kernel⟩
theorem ml_X8_34 : ch_LV RX8 34 yX8_decideHandovers cX8_decideHandovers 4 none 1 := ⟨kw_1027, kw_1029, ks_24, kw_8, kw_1030, by decide, by decide, by decide +kernel⟩
theorem ml_X8_37 : ch_LV RX8 37 yX8_countCongestion cX8_countCongestion 3 none 1 := ⟨kw_1058, kw_1060, ks_28, kw_8, kw_1061, by decide, by decide, by decide +kernel⟩
theorem ml_X8_40 : ch_LV RX8 40 yX8_expireRequests cX8_expireRequests 4 none 1 := ⟨kw_1062, kw_1064, ks_29, kw_8, kw_1065, by decide, by decide, by decide +kernel⟩
theorem ml_X8_49 : ch_LV RX8 49 yX3_mobileAt cX3_mobileAt 3 (some (FieldType.object "CellHandover$Mobile")) 1 := ⟨kw_949, kw_475, kw_476, kw_3, kw_477, by decide, by decide, by decide +kernel⟩
theorem ml_X8_53 : ch_LV RX8 53 yX6_rank cX6_rank 6 none 2 := ⟨kw_1035, kw_1036, kw_1037, kw_9, kw_1038, by decide, by decide, by decide +kernel⟩
theorem ml_X8_57 : ch_LV RX8 57 yX6_cellAtRank cX6_cellAtRank 2 (some FieldType.int) 1 := ⟨kw_1052, kw_1053, kw_1054, kw_9, kw_1055, by decide, by decide, by decide +kernel⟩
theorem ms_X8_72 : ch_LS RX8 72 yJ9_min_7cf53 cJ9_min_7cf53 2 (some FieldType.int) 2 := ⟨kw_950, kw_486, kw_16, kw_487, by decide, by decide, by decide +kernel⟩
theorem ms_X8_78 : ch_LS RX8 78 yJ9_max_7cf53 cJ9_max_7cf53 2 (some FieldType.int) 2 := ⟨kw_951, kw_775, kw_16, kw_776, by decide, by decide, by decide +kernel⟩
theorem ml_X8_90 : ch_LV RX8 90 yX8_measure cX8_measure 5 none 2 := ⟨kw_956, kw_958, ks_16, kw_8, kw_959, by decide, by decide, by decide +kernel⟩
theorem ml_X8_99 : ch_LV RX8 99 yX3_relationAt cX3_relationAt 5 (some (FieldType.object "CellHandover$Relation")) 2 := ⟨kw_960, kw_467, kw_468, kw_3, kw_469, by decide, by decide, by decide +kernel⟩
theorem ml_X8_109 : ch_LV RX8 109 yX3_cellAt cX3_cellAt 3 (some (FieldType.object "CellHandover$Cell")) 1 := ⟨kw_961, kw_459, kw_460, kw_3, kw_461, by decide, by decide, by decide +kernel⟩
theorem ml_X8_113 : ch_LV RX8 113 yX0_levelAt cX0_levelAt 4 (some FieldType.int) 2 := ⟨kw_962, kw_768, kw_769, kw_4, kw_770, by decide, by decide, by decide +kernel⟩
theorem ml_X8_121 : ch_LV RX8 121 yX2_addReport cX2_addReport 7 none 3 := ⟨kw_963, kw_964, kw_965, kw_6, kw_966, by decide, by decide, by decide +kernel⟩
theorem ml_X8_125 : ch_LV RX8 125 yX2_clearReports cX2_clearReports 2 none 1 := ⟨kw_975, kw_976, kw_977, kw_6, kw_978, by decide, by decide, by decide +kernel⟩
theorem ml_X8_132 : ch_LV RX8 132 yX2_becomeIdle cX2_becomeIdle 1 none 0 := ⟨kw_983, kw_847, kw_848, kw_6, kw_849, by decide, by decide, by decide +kernel⟩
theorem ml_X8_135 : ch_LV RX8 135 yX3_count cX3_count 2 none 1 := ⟨kw_984, kw_891, kw_892, kw_3, kw_893, by decide, by decide, by decide +kernel⟩
theorem ml_X8_138 : ch_LV RX8 138 yX2_averageOf cX2_averageOf 6 (some FieldType.int) 1 := ⟨kw_989, kw_990, kw_991, kw_6, kw_992, by decide, by decide, by decide +kernel⟩
theorem ml_X8_150 : ch_LV RX8 150 yX3_hasFreeChannel cX3_hasFreeChannel 2 (some FieldType.boolean) 1 := ⟨kw_997, kw_879, kw_880, kw_3, kw_881, by decide, by decide, by decide +kernel⟩
theorem ml_X8_154 : ch_LV RX8 154 yX3_queuedMobile cX3_queuedMobile 4 (some FieldType.int) 2 := ⟨kw_998, kw_999, kw_1000, kw_3, kw_1001, by decide, by decide, by decide +kernel⟩
theorem ml_X8_157 : ch_LV RX8 157 yX8_serve cX8_serve 4 none 3 := ⟨kw_1010, kw_1012, ks_23, kw_8, kw_1013, by decide, by decide, by decide +kernel⟩
theorem ml_X8_161 : ch_LV RX8 161 yX3_handOver cX3_handOver 4 none 2 := ⟨kw_1014, kw_1015, kw_1016, kw_3, kw_1017, by decide, by decide, by decide +kernel⟩
theorem ml_X8_165 : ch_LV RX8 165 yX2_beginToTalk cX2_beginToTalk 2 none 1 := ⟨kw_1026, kw_895, kw_896, kw_6, kw_897, by decide, by decide, by decide +kernel⟩
theorem ml_X8_171 : ch_LV RX8 171 yX8_considerHandover cX8_considerHandover 5 none 2 := ⟨kw_1031, kw_1033, ks_25, kw_8, kw_1034, by decide, by decide, by decide +kernel⟩
theorem ml_X8_182 : ch_LV RX8 182 yX3_hasQueuePlace cX3_hasQueuePlace 2 (some FieldType.boolean) 1 := ⟨kw_1056, kw_899, kw_900, kw_3, kw_901, by decide, by decide, by decide +kernel⟩
theorem ml_X8_185 : ch_LV RX8 185 yX2_makeRequest cX2_makeRequest 3 none 2 := ⟨kw_1057, kw_911, kw_912, kw_6, kw_913, by decide, by decide, by decide +kernel⟩
theorem ml_X8_198 : ch_LV RX8 198 yX8_expire cX8_expire 3 none 2 := ⟨kw_1066, kw_1068, ks_30, kw_8, kw_1069, by decide, by decide, by decide +kernel⟩
theorem ml_X9_15 : ch_LV RX9 15 yX3_coveringCell cX3_coveringCell 4 (some FieldType.int) 2 := ⟨kw_808, kw_785, kw_786, kw_3, kw_787, by decide, by decide, by decide +kernel⟩
theorem ms_X9_21 : ch_LS RX9 21 yJ7_fill_53178 cJ7_fill_53178 4 none 2 := ⟨kw_820, kw_625, kw_18, kw_626, by decide, by decide, by decide +kernel⟩
theorem ml_X9_27 : ch_LV RX9 27 yX9_countNear cX9_countNear 10 none 4 := ⟨kw_821, kw_823, ks_9, kw_10, kw_824, by decide, by decide, by decide +kernel⟩
theorem ml_X9_35 : ch_LV RX9 35 yX3_relationAt cX3_relationAt 5 (some (FieldType.object "CellHandover$Relation")) 2 := ⟨kw_828, kw_467, kw_468, kw_3, kw_469, by decide, by decide, by decide +kernel⟩
theorem ml_X9_45 : ch_LV RX9 45 yX3_loudestCell cX3_loudestCell 7 (some FieldType.int) 2 := ⟨kw_825, kw_789, kw_790, kw_3, kw_791, by decide, by decide, by decide +kernel⟩
theorem ml_X9_48 : ch_LV RX9 48 yX3_cellAt cX3_cellAt 3 (some (FieldType.object "CellHandover$Cell")) 1 := ⟨kw_826, kw_459, kw_460, kw_3, kw_461, by decide, by decide, by decide +kernel⟩
theorem ml_X9_52 : ch_LV RX9 52 yX0_levelAt cX0_levelAt 4 (some FieldType.int) 2 := ⟨kw_827, kw_768, kw_769, kw_4, kw_770, by decide, by decide, by decide +kernel⟩
theorem ml_X10_31 : ch_LV RX10 31 yX10_advance cX10_advance 1 none 0 := ⟨kw_587, kw_588, kw_589, kw_2, kw_590, by decide, by decide, by decide +kernel⟩
theorem ml_X10_37 : ch_LV RX10 37 yX10_byteAt cX10_byteAt 2 (some FieldType.int) 1 := ⟨kw_591, kw_593, ks_2, kw_2, kw_594, by decide, by decide, by decide +kernel⟩
theorem ms_X10_41 : ch_LS RX10 41 yX10_kindOf cX10_kindOf 1 (some FieldType.int) 1 := ⟨kw_595, kw_596, kw_2, kw_597, by decide, by decide, by decide +kernel⟩
theorem ms_X10_44 : ch_LS RX10 44 yJ9_min_7cf53 cJ9_min_7cf53 2 (some FieldType.int) 2 := ⟨kw_598, kw_486, kw_16, kw_487, by decide, by decide, by decide +kernel⟩
theorem ml_X10_53 : ch_LV RX10 53 yJ0_length_8abf5 cJ0_length_8abf5 1 (some FieldType.int) 0 := ⟨kw_640, kw_641, kw_642, kw_19, kw_643, by decide, by decide, by decide +kernel⟩
theorem ml_X10_59 : ch_LV RX10 59 yJ0_charAt_5068e cJ0_charAt_5068e 2 (some FieldType.char) 1 := ⟨kw_650, kw_651, kw_652, kw_19, kw_653, by decide, by decide, by decide +kernel⟩
theorem ml_X10_63 : ch_LV RX10 63 yX10_is cX10_is 3 (some FieldType.boolean) 1 := ⟨kw_725, kw_637, kw_638, kw_2, kw_639, by decide, by decide, by decide +kernel⟩
theorem ml_X10_67 : ch_LV RX10 67 yX10_fail cX10_fail 2 none 1 := ⟨kw_706, kw_693, kw_694, kw_2, kw_695, by decide, by decide, by decide +kernel⟩
theorem ml_X10_71 : ch_LV RX10 71 yX10_seeNumber cX10_seeNumber 5 (some FieldType.int) 2 := ⟨kw_702, kw_703, kw_704, kw_2, kw_705, by decide, by decide, by decide +kernel⟩
theorem ml_L_7 : ch_LV RL 7 yX11_load cX11_load 2 (some FieldType.int) 1 := ⟨kw_509, kw_510, kw_511, kw_1, kw_512, by decide, by decide, by decide +kernel⟩
theorem ml_L_15 : ch_LV RL 15 yX11_hysteresis cX11_hysteresis 4 (some FieldType.int) 2 := ⟨kw_734, kw_735, kw_736, kw_1, kw_737, by decide, by decide, by decide +kernel⟩
theorem ml_L_21 : ch_LV RL 21 yX11_level cX11_level 4 (some FieldType.int) 3 := ⟨kw_762, kw_763, kw_764, kw_1, kw_765, by decide, by decide, by decide +kernel⟩
theorem ml_L_25 : ch_LV RL 25 yX11_strongestCell cX11_strongestCell 3 (some FieldType.int) 2 := ⟨kw_780, kw_781, kw_782, kw_1, kw_783, by decide, by decide, by decide +kernel⟩
theorem ml_L_28 : ch_LV RL 28 yX11_coverage cX11_coverage 2 (some FieldType.int) 1 := ⟨kw_800, kw_801, kw_802, kw_1, kw_803, by decide, by decide, by decide +kernel⟩
theorem ml_L_31 : ch_LV RL 31 yX11_missingRelation cX11_missingRelation 2 (some FieldType.int) 1 := ⟨kw_812, kw_813, kw_814, kw_1, kw_815, by decide, by decide, by decide +kernel⟩
theorem ml_L_34 : ch_LV RL 34 yX11_addMobile cX11_addMobile 6 (some FieldType.int) 4 := ⟨kw_832, kw_833, kw_834, kw_1, kw_835, by decide, by decide, by decide +kernel⟩
theorem ml_L_38 : ch_LV RL 38 yX11_setVelocity cX11_setVelocity 5 (some FieldType.int) 3 := ⟨kw_858, kw_859, kw_860, kw_1, kw_861, by decide, by decide, by decide +kernel⟩
theorem ml_L_41 : ch_LV RL 41 yX11_call cX11_call 5 (some FieldType.int) 2 := ⟨kw_870, kw_871, kw_872, kw_1, kw_873, by decide, by decide, by decide +kernel⟩
theorem ml_L_44 : ch_LV RL 44 yX11_hangUp cX11_hangUp 4 (some FieldType.int) 1 := ⟨kw_917, kw_918, kw_919, kw_1, kw_920, by decide, by decide, by decide +kernel⟩
theorem ml_L_47 : ch_LV RL 47 yX11_setHysteresis cX11_setHysteresis 6 (some FieldType.int) 3 := ⟨kw_925, kw_926, kw_927, kw_1, kw_928, by decide, by decide, by decide +kernel⟩
theorem ml_L_50 : ch_LV RL 50 yX11_run cX11_run 3 (some FieldType.int) 1 := ⟨kw_932, kw_933, kw_934, kw_1, kw_935, by decide, by decide, by decide +kernel⟩
theorem ml_L_53 : ch_LV RL 53 yX11_x cX11_x 2 (some FieldType.int) 1 := ⟨kw_1073, kw_1074, kw_1075, kw_1, kw_1076, by decide, by decide, by decide +kernel⟩
theorem ml_L_56 : ch_LV RL 56 yX11_y cX11_y 2 (some FieldType.int) 1 := ⟨kw_1080, kw_1081, kw_1082, kw_1, kw_1083, by decide, by decide, by decide +kernel⟩
theorem ml_L_59 : ch_LV RL 59 yX11_state cX11_state 2 (some FieldType.int) 1 := ⟨kw_1087, kw_1088, kw_1089, kw_1, kw_1090, by decide, by decide, by decide +kernel⟩
theorem ml_L_62 : ch_LV RL 62 yX11_servingCell cX11_servingCell 2 (some FieldType.int) 1 := ⟨kw_1094, kw_1095, kw_1096, kw_1, kw_1097, by decide, by decide, by decide +kernel⟩
theorem ml_L_65 : ch_LV RL 65 yX11_remaining cX11_remaining 2 (some FieldType.int) 1 := ⟨kw_1101, kw_1102, kw_1103, kw_1, kw_1104, by decide, by decide, by decide +kernel⟩
theorem ml_L_68 : ch_LV RL 68 yX11_requestCell cX11_requestCell 2 (some FieldType.int) 1 := ⟨kw_1108, kw_1109, kw_1110, kw_1, kw_1111, by decide, by decide, by decide +kernel⟩
theorem ml_L_71 : ch_LV RL 71 yX11_average cX11_average 3 (some FieldType.int) 2 := ⟨kw_1115, kw_1116, kw_1117, kw_1, kw_1118, by decide, by decide, by decide +kernel⟩
theorem ml_L_74 : ch_LV RL 74 yX11_reportCount cX11_reportCount 3 (some FieldType.int) 2 := ⟨kw_1123, kw_1124, kw_1125, kw_1, kw_1126, by decide, by decide, by decide +kernel⟩
theorem ml_L_77 : ch_LV RL 77 yX11_isBarred cX11_isBarred 3 (some FieldType.boolean) 2 := ⟨kw_1131, kw_1132, kw_1133, kw_1, kw_1134, by decide, by decide, by decide +kernel⟩
theorem ml_L_81 : ch_LV RL 81 yX11_candidate cX11_candidate 3 (some FieldType.int) 2 := ⟨kw_1139, kw_1140, kw_1141, kw_1, kw_1142, by decide, by decide, by decide +kernel⟩
theorem ml_L_84 : ch_LV RL 84 yX11_busyChannels cX11_busyChannels 2 (some FieldType.int) 1 := ⟨kw_1154, kw_1155, kw_1156, kw_1, kw_1157, by decide, by decide, by decide +kernel⟩
theorem ml_L_87 : ch_LV RL 87 yX11_queueLength cX11_queueLength 2 (some FieldType.int) 1 := ⟨kw_1162, kw_1163, kw_1164, kw_1, kw_1165, by decide, by decide, by decide +kernel⟩
theorem ml_L_90 : ch_LV RL 90 yX11_queued cX11_queued 3 (some FieldType.int) 2 := ⟨kw_1170, kw_1171, kw_1172, kw_1, kw_1173, by decide, by decide, by decide +kernel⟩
theorem ml_L_93 : ch_LV RL 93 yX11_successes cX11_successes 3 (some FieldType.int) 2 := ⟨kw_1178, kw_1179, kw_1180, kw_1, kw_1181, by decide, by decide, by decide +kernel⟩
theorem ml_L_96 : ch_LV RL 96 yX11_refusals cX11_refusals 3 (some FieldType.int) 2 := ⟨kw_1185, kw_1186, kw_1187, kw_1, kw_1188, by decide, by decide, by decide +kernel⟩
theorem ml_L_99 : ch_LV RL 99 yX11_congestedTicks cX11_congestedTicks 2 (some FieldType.int) 1 := ⟨kw_1192, kw_1193, kw_1194, kw_1, kw_1195, by decide, by decide, by decide +kernel⟩
theorem ml_L_102 : ch_LV RL 102 yX11_forecastCell cX11_forecastCell 3 (some FieldType.int) 2 := ⟨kw_1199, kw_1200, kw_1201, kw_1, kw_1202, by decide, by decide, by decide +kernel⟩
theorem ml_L_105 : ch_LV RL 105 yX11_bestHysteresis cX11_bestHysteresis 10 (some FieldType.int) 3 := ⟨kw_1206, kw_1207, kw_1208, kw_1, kw_1209, by decide, by decide, by decide +kernel⟩
theorem ml_L_108 : ch_LV RL 108 yX11_query cX11_query 3 (some FieldType.int) 1 := ⟨kw_1213, kw_1214, kw_1215, kw_1, kw_1216, by decide, by decide, by decide +kernel⟩
theorem ml_L_115 : ch_LV RL 115 yX11_feed cX11_feed 6 (some FieldType.int) 5 := ⟨kw_406, kw_407, kw_408, kw_1, kw_409, by decide, by decide, by decide +kernel⟩
theorem ml_L_119 : ch_LV RL 119 yX12_feed cX12_feed 8 (some FieldType.int) 5 := ⟨kw_1772, kw_1773, kw_1774, kw_11, kw_1775, by decide, by decide, by decide +kernel⟩
theorem ml_L_125 : ch_LV RL 125 yX12_load cX12_load 2 (some FieldType.int) 1 := ⟨kw_1780, kw_1781, kw_1782, kw_11, kw_1783, by decide, by decide, by decide +kernel⟩
theorem ml_L_126 : ch_LV RL 126 yX12_thrown cX12_thrown 1 (some FieldType.int) 0 := ⟨kw_1393, kw_1394, kw_1395, kw_11, kw_1396, by decide, by decide, by decide +kernel⟩
theorem ml_L_130 : ch_LV RL 130 yX11_errorPosition cX11_errorPosition 1 (some FieldType.int) 0 := ⟨kw_414, kw_415, kw_416, kw_1, kw_417, by decide, by decide, by decide +kernel⟩
theorem ml_L_133 : ch_LV RL 133 yX12_errorPosition cX12_errorPosition 1 (some FieldType.int) 0 := ⟨kw_1776, kw_1777, kw_1778, kw_11, kw_1779, by decide, by decide, by decide +kernel⟩
theorem ml_L_134 : ch_LV RL 134 yX11_cellCount cX11_cellCount 1 (some FieldType.int) 0 := ⟨kw_418, kw_419, kw_420, kw_1, kw_421, by decide, by decide, by decide +kernel⟩
theorem ml_L_137 : ch_LV RL 137 yX12_cellCount cX12_cellCount 1 (some FieldType.int) 0 := ⟨kw_1461, kw_1462, kw_1463, kw_11, kw_1464, by decide, by decide, by decide +kernel⟩
theorem ml_L_138 : ch_LV RL 138 yX11_relationCount cX11_relationCount 1 (some FieldType.int) 0 := ⟨kw_422, kw_423, kw_424, kw_1, kw_425, by decide, by decide, by decide +kernel⟩
theorem ml_L_141 : ch_LV RL 141 yX12_relationCount cX12_relationCount 1 (some FieldType.int) 0 := ⟨kw_1465, kw_1466, kw_1467, kw_11, kw_1468, by decide, by decide, by decide +kernel⟩
theorem ml_L_142 : ch_LV RL 142 yX11_mobileCount cX11_mobileCount 1 (some FieldType.int) 0 := ⟨kw_426, kw_427, kw_428, kw_1, kw_429, by decide, by decide, by decide +kernel⟩
theorem ml_L_145 : ch_LV RL 145 yX12_mobileCount cX12_mobileCount 1 (some FieldType.int) 0 := ⟨kw_1469, kw_1470, kw_1471, kw_11, kw_1472, by decide, by decide, by decide +kernel⟩
theorem ml_L_146 : ch_LV RL 146 yX11_clock cX11_clock 1 (some FieldType.int) 0 := ⟨kw_430, kw_431, kw_432, kw_1, kw_433, by decide, by decide, by decide +kernel⟩
theorem ml_L_149 : ch_LV RL 149 yX12_clock cX12_clock 1 (some FieldType.int) 0 := ⟨kw_1473, kw_1474, kw_1475, kw_11, kw_1476, by decide, by decide, by decide +kernel⟩
theorem ml_L_153 : ch_LV RL 153 yX12_hysteresis cX12_hysteresis 3 (some FieldType.int) 2 := ⟨kw_1477, kw_1478, kw_1479, kw_11, kw_1480, by decide, by decide, by decide +kernel⟩
theorem ml_L_157 : ch_LV RL 157 yX12_level cX12_level 4 (some FieldType.int) 3 := ⟨kw_1397, kw_1398, kw_1399, kw_11, kw_1400, by decide, by decide, by decide +kernel⟩
theorem ml_L_160 : ch_LV RL 160 yX12_strongestCell cX12_strongestCell 3 (some FieldType.int) 2 := ⟨kw_1425, kw_1426, kw_1427, kw_11, kw_1428, by decide, by decide, by decide +kernel⟩
theorem ml_L_163 : ch_LV RL 163 yX12_coverage cX12_coverage 5 (some FieldType.int) 1 := ⟨kw_1437, kw_1438, kw_1439, kw_11, kw_1440, by decide, by decide, by decide +kernel⟩
theorem ml_L_166 : ch_LV RL 166 yX12_missingRelation cX12_missingRelation 4 (some FieldType.int) 1 := ⟨kw_1441, kw_1442, kw_1443, kw_11, kw_1444, by decide, by decide, by decide +kernel⟩
theorem ml_L_170 : ch_LV RL 170 yX12_addMobile cX12_addMobile 7 (some FieldType.int) 4 := ⟨kw_1689, kw_1690, kw_1691, kw_11, kw_1692, by decide, by decide, by decide +kernel⟩
theorem ml_L_173 : ch_LV RL 173 yX12_setVelocity cX12_setVelocity 5 (some FieldType.int) 3 := ⟨kw_1696, kw_1697, kw_1698, kw_11, kw_1699, by decide, by decide, by decide +kernel⟩
theorem ml_L_176 : ch_LV RL 176 yX12_call cX12_call 5 (some FieldType.int) 2 := ⟨kw_1541, kw_1542, kw_1543, kw_11, kw_1544, by decide, by decide, by decide +kernel⟩
theorem ml_L_179 : ch_LV RL 179 yX12_hangUp cX12_hangUp 3 (some FieldType.int) 1 := ⟨kw_1592, kw_1593, kw_1594, kw_11, kw_1595, by decide, by decide, by decide +kernel⟩
theorem ml_L_182 : ch_LV RL 182 yX12_setHysteresis cX12_setHysteresis 5 (some FieldType.int) 3 := ⟨kw_1700, kw_1701, kw_1702, kw_11, kw_1703, by decide, by decide, by decide +kernel⟩
theorem ml_L_185 : ch_LV RL 185 yX12_run cX12_run 3 (some FieldType.int) 1 := ⟨kw_1604, kw_1605, kw_1606, kw_11, kw_1607, by decide, by decide, by decide +kernel⟩
theorem ml_L_188 : ch_LV RL 188 yX12_x cX12_x 2 (some FieldType.int) 1 := ⟨kw_1704, kw_1705, kw_1706, kw_11, kw_1707, by decide, by decide, by decide +kernel⟩
theorem ml_L_191 : ch_LV RL 191 yX12_y cX12_y 2 (some FieldType.int) 1 := ⟨kw_1708, kw_1709, kw_1710, kw_11, kw_1711, by decide, by decide, by decide +kernel⟩
theorem ml_L_194 : ch_LV RL 194 yX12_state cX12_state 2 (some FieldType.int) 1 := ⟨kw_1712, kw_1713, kw_1714, kw_11, kw_1715, by decide, by decide, by decide +kernel⟩
theorem ml_L_197 : ch_LV RL 197 yX12_servingCell cX12_servingCell 2 (some FieldType.int) 1 := ⟨kw_1716, kw_1717, kw_1718, kw_11, kw_1719, by decide, by decide, by decide +kernel⟩
theorem ml_L_200 : ch_LV RL 200 yX12_remaining cX12_remaining 2 (some FieldType.int) 1 := ⟨kw_1720, kw_1721, kw_1722, kw_11, kw_1723, by decide, by decide, by decide +kernel⟩
theorem ml_L_203 : ch_LV RL 203 yX12_requestCell cX12_requestCell 2 (some FieldType.int) 1 := ⟨kw_1724, kw_1725, kw_1726, kw_11, kw_1727, by decide, by decide, by decide +kernel⟩
theorem ml_L_206 : ch_LV RL 206 yX12_average cX12_average 3 (some FieldType.int) 2 := ⟨kw_1728, kw_1729, kw_1730, kw_11, kw_1731, by decide, by decide, by decide +kernel⟩
theorem ml_L_209 : ch_LV RL 209 yX12_reportCount cX12_reportCount 3 (some FieldType.int) 2 := ⟨kw_1736, kw_1737, kw_1738, kw_11, kw_1739, by decide, by decide, by decide +kernel⟩
theorem ml_L_212 : ch_LV RL 212 yX12_isBarred cX12_isBarred 3 (some FieldType.boolean) 2 := ⟨kw_1740, kw_1741, kw_1742, kw_11, kw_1743, by decide, by decide, by decide +kernel⟩
theorem ml_L_215 : ch_LV RL 215 yX12_candidate cX12_candidate 3 (some FieldType.int) 2 := ⟨kw_1744, kw_1745, kw_1746, kw_11, kw_1747, by decide, by decide, by decide +kernel⟩
theorem ml_L_218 : ch_LV RL 218 yX12_busyChannels cX12_busyChannels 2 (some FieldType.int) 1 := ⟨kw_1505, kw_1506, kw_1507, kw_11, kw_1508, by decide, by decide, by decide +kernel⟩
theorem ml_L_221 : ch_LV RL 221 yX12_queueLength cX12_queueLength 2 (some FieldType.int) 1 := ⟨kw_1521, kw_1522, kw_1523, kw_11, kw_1524, by decide, by decide, by decide +kernel⟩
theorem ml_L_224 : ch_LV RL 224 yX12_queued cX12_queued 3 (some FieldType.int) 2 := ⟨kw_1529, kw_1530, kw_1531, kw_11, kw_1532, by decide, by decide, by decide +kernel⟩
theorem ml_L_227 : ch_LV RL 227 yX12_successes cX12_successes 3 (some FieldType.int) 2 := ⟨kw_1489, kw_1490, kw_1491, kw_11, kw_1492, by decide, by decide, by decide +kernel⟩
theorem ml_L_230 : ch_LV RL 230 yX12_refusals cX12_refusals 3 (some FieldType.int) 2 := ⟨kw_1493, kw_1494, kw_1495, kw_11, kw_1496, by decide, by decide, by decide +kernel⟩
theorem ml_L_231 : ch_LV RL 231 yX11_total cX11_total 2 (some FieldType.int) 1 := ⟨kw_434, kw_435, kw_436, kw_1, kw_437, by decide, by decide, by decide +kernel⟩
theorem ml_L_234 : ch_LV RL 234 yX12_total cX12_total 2 (some FieldType.int) 1 := ⟨kw_1497, kw_1498, kw_1499, kw_11, kw_1500, by decide, by decide, by decide +kernel⟩
theorem ml_L_237 : ch_LV RL 237 yX12_congestedTicks cX12_congestedTicks 2 (some FieldType.int) 1 := ⟨kw_1501, kw_1502, kw_1503, kw_11, kw_1504, by decide, by decide, by decide +kernel⟩
theorem ml_L_240 : ch_LV RL 240 yX12_forecastCell cX12_forecastCell 4 (some FieldType.int) 2 := ⟨kw_1748, kw_1749, kw_1750, kw_11, kw_1751, by decide, by decide, by decide +kernel⟩
theorem ml_L_243 : ch_LV RL 243 yX12_bestHysteresis cX12_bestHysteresis 11 (some FieldType.int) 3 := ⟨kw_1752, kw_1753, kw_1754, kw_11, kw_1755, by decide, by decide, by decide +kernel⟩
theorem ml_L_244 : ch_LV RL 244 yX11_undoCount cX11_undoCount 1 (some FieldType.int) 0 := ⟨kw_442, kw_443, kw_444, kw_1, kw_445, by decide, by decide, by decide +kernel⟩
theorem ml_L_247 : ch_LV RL 247 yX12_undoCount cX12_undoCount 1 (some FieldType.int) 0 := ⟨kw_1756, kw_1757, kw_1758, kw_11, kw_1759, by decide, by decide, by decide +kernel⟩
theorem ml_L_248 : ch_LV RL 248 yX11_undo cX11_undo 1 (some FieldType.int) 0 := ⟨kw_446, kw_447, kw_448, kw_1, kw_449, by decide, by decide, by decide +kernel⟩
theorem ml_L_251 : ch_LV RL 251 yX12_undo cX12_undo 1 (some FieldType.int) 0 := ⟨kw_1760, kw_1761, kw_1762, kw_11, kw_1763, by decide, by decide, by decide +kernel⟩
theorem ml_L_252 : ch_LV RL 252 yX11_saveSnapshot cX11_saveSnapshot 1 none 0 := ⟨kw_492, kw_493, kw_494, kw_1, kw_495, by decide, by decide, by decide +kernel⟩
theorem ml_L_255 : ch_LV RL 255 yX12_saveSnapshot cX12_saveSnapshot 1 none 0 := ⟨kw_1764, kw_1765, kw_1766, kw_11, kw_1767, by decide, by decide, by decide +kernel⟩
theorem ml_L_256 : ch_LV RL 256 yX11_restoreSnapshot cX11_restoreSnapshot 1 (some FieldType.boolean) 0 := ⟨kw_497, kw_498, kw_499, kw_1, kw_500, by decide, by decide, by decide +kernel⟩
theorem ml_L_260 : ch_LV RL 260 yX12_restoreSnapshot cX12_restoreSnapshot 1 (some FieldType.boolean) 0 := ⟨kw_1768, kw_1769, kw_1770, kw_11, kw_1771, by decide, by decide, by decide +kernel⟩
theorem ml_L_263 : ch_LV RL 263 yX12_query cX12_query 5 (some FieldType.int) 1 := ⟨kw_1869, kw_1870, kw_1871, kw_11, kw_1872, by decide, by decide, by decide +kernel⟩
theorem ms_X12_66 : ch_LS RX12 66 yX12_clear cX12_clear 2 none 1 := ⟨kw_1314, kw_1315, kw_11, kw_1316, by decide, by decide, by decide +kernel⟩
theorem ms_X12_73 : ch_LS RX12 73 yX12_inRange cX12_inRange 3 (some FieldType.boolean) 3 := ⟨kw_1405, kw_1406, kw_11, kw_1407, by decide, by decide, by decide +kernel⟩
theorem ml_X12_77 : ch_LV RX12 77 yX12_of cX12_of 3 (some FieldType.int) 2 := ⟨kw_1517, kw_1519, ks_52, kw_11, kw_1520, by decide, by decide, by decide +kernel⟩
theorem ml_X12_81 : ch_LV RX12 81 yX12_relationOf cX12_relationOf 6 (some FieldType.int) 3 := ⟨kw_1449, kw_1451, ks_45, kw_11, kw_1452, by decide, by decide, by decide +kernel⟩
theorem ml_X12_85 : ch_LV RX12 85 yX12_ofCell cX12_ofCell 3 (some FieldType.int) 2 := ⟨kw_1419, kw_1421, ks_41, kw_11, kw_1422, by decide, by decide, by decide +kernel⟩
theorem ms_X12_88 : ch_LS RX12 88 yJ9_abs_0f7a4 cJ9_abs_0f7a4 1 (some FieldType.int) 1 := ⟨kw_1423, kw_772, kw_16, kw_773, by decide, by decide, by decide +kernel⟩
theorem ms_X12_94 : ch_LS RX12 94 yJ9_max_7cf53 cJ9_max_7cf53 2 (some FieldType.int) 2 := ⟨kw_1424, kw_775, kw_16, kw_776, by decide, by decide, by decide +kernel⟩
theorem ml_X12_97 : ch_LV RX12 97 yX12_levelAt cX12_levelAt 5 (some FieldType.int) 3 := ⟨kw_1415, kw_1417, ks_40, kw_11, kw_1418, by decide, by decide, by decide +kernel⟩
theorem ml_X12_101 : ch_LV RX12 101 yX12_strongest cX12_strongest 5 (some FieldType.int) 2 := ⟨kw_1433, kw_1435, ks_43, kw_11, kw_1436, by decide, by decide, by decide +kernel⟩
theorem ml_X12_104 : ch_LV RX12 104 yX12_isCell cX12_isCell 2 (some FieldType.boolean) 1 := ⟨kw_1401, kw_1403, ks_38, kw_11, kw_1404, by decide, by decide, by decide +kernel⟩
theorem ml_X12_108 : ch_LV RX12 108 yX12_raise cX12_raise 2 (some FieldType.int) 1 := ⟨kw_1408, kw_1410, ks_39, kw_11, kw_1411, by decide, by decide, by decide +kernel⟩
theorem ms_X12_111 : ch_LS RX12 111 yX12_isCoordinate cX12_isCoordinate 1 (some FieldType.boolean) 1 := ⟨kw_1412, kw_1413, kw_11, kw_1414, by decide, by decide, by decide +kernel⟩
theorem ml_X12_114 : ch_LV RX12 114 yX12_covering cX12_covering 4 (some FieldType.int) 2 := ⟨kw_1429, kw_1431, ks_42, kw_11, kw_1432, by decide, by decide, by decide +kernel⟩
theorem ml_X12_117 : ch_LV RX12 117 yX12_isNear cX12_isNear 7 (some FieldType.boolean) 5 := ⟨kw_1457, kw_1459, ks_47, kw_11, kw_1460, by decide, by decide, by decide +kernel⟩
theorem ml_X12_121 : ch_LV RX12 121 yX12_isNeighbour cX12_isNeighbour 3 (some FieldType.boolean) 2 := ⟨kw_1445, kw_1447, ks_44, kw_11, kw_1448, by decide, by decide, by decide +kernel⟩
theorem ml_X12_125 : ch_LV RX12 125 yX12_isMissing cX12_isMissing 7 (some FieldType.boolean) 3 := ⟨kw_1453, kw_1455, ks_46, kw_11, kw_1456, by decide, by decide, by decide +kernel⟩
theorem ml_X12_128 : ch_LV RX12 128 yX12_ofRelation cX12_ofRelation 3 (some FieldType.int) 2 := ⟨kw_1485, kw_1487, ks_49, kw_11, kw_1488, by decide, by decide, by decide +kernel⟩
theorem ml_X12_131 : ch_LV RX12 131 yX12_tellRelation cX12_tellRelation 6 (some FieldType.int) 4 := ⟨kw_1481, kw_1483, ks_48, kw_11, kw_1484, by decide, by decide, by decide +kernel⟩
theorem ml_X12_135 : ch_LV RX12 135 yX12_talks cX12_talks 2 (some FieldType.boolean) 1 := ⟨kw_1513, kw_1515, ks_51, kw_11, kw_1516, by decide, by decide, by decide +kernel⟩
theorem ml_X12_138 : ch_LV RX12 138 yX12_busy cX12_busy 4 (some FieldType.int) 1 := ⟨kw_1509, kw_1511, ks_50, kw_11, kw_1512, by decide, by decide, by decide +kernel⟩
theorem ml_X12_141 : ch_LV RX12 141 yX12_waitingAt cX12_waitingAt 4 (some FieldType.int) 1 := ⟨kw_1525, kw_1527, ks_53, kw_11, kw_1528, by decide, by decide, by decide +kernel⟩
theorem ml_X12_144 : ch_LV RX12 144 yX12_isAhead cX12_isAhead 3 (some FieldType.boolean) 2 := ⟨kw_1537, kw_1539, ks_55, kw_11, kw_1540, by decide, by decide, by decide +kernel⟩
theorem ml_X12_147 : ch_LV RX12 147 yX12_put cX12_put 4 none 3 := ⟨kw_1556, kw_1558, ks_58, kw_11, kw_1559, by decide, by decide, by decide +kernel⟩
theorem ml_X12_151 : ch_LV RX12 151 yX12_requestAt cX12_requestAt 6 (some FieldType.int) 2 := ⟨kw_1533, kw_1535, ks_54, kw_11, kw_1536, by decide, by decide, by decide +kernel⟩
theorem ml_X12_154 : ch_LV RX12 154 yX12_reportsOf cX12_reportsOf 3 (some FieldType.int) 2 := ⟨kw_1633, kw_1635, ks_74, kw_11, kw_1636, by decide, by decide, by decide +kernel⟩
theorem ml_X12_157 : ch_LV RX12 157 yX12_levelFor cX12_levelFor 3 (some FieldType.int) 2 := ⟨kw_1576, kw_1578, ks_63, kw_11, kw_1579, by decide, by decide, by decide +kernel⟩
theorem ml_X12_160 : ch_LV RX12 160 yX12_report cX12_report 6 none 3 := ⟨kw_1629, kw_1631, ks_73, kw_11, kw_1632, by decide, by decide, by decide +kernel⟩
theorem ml_X12_163 : ch_LV RX12 163 yX12_withdraw cX12_withdraw 2 none 1 := ⟨kw_1568, kw_1570, ks_61, kw_11, kw_1571, by decide, by decide, by decide +kernel⟩
theorem ml_X12_167 : ch_LV RX12 167 yX12_hasFreeChannel cX12_hasFreeChannel 2 (some FieldType.boolean) 1 := ⟨kw_1560, kw_1562, ks_59, kw_11, kw_1563, by decide, by decide, by decide +kernel⟩
theorem ml_X12_170 : ch_LV RX12 170 yX12_isMobile cX12_isMobile 2 (some FieldType.boolean) 1 := ⟨kw_1545, kw_1547, ks_56, kw_11, kw_1548, by decide, by decide, by decide +kernel⟩
theorem ml_X12_173 : ch_LV RX12 173 yX12_record cX12_record 2 none 0 := ⟨kw_1549, kw_1551, ks_57, kw_11, kw_1552, by decide, by decide, by decide +kernel⟩
theorem ml_X12_176 : ch_LV RX12 176 yX12_begin cX12_begin 4 none 2 := ⟨kw_1564, kw_1566, ks_60, kw_11, kw_1567, by decide, by decide, by decide +kernel⟩
theorem ml_X12_180 : ch_LV RX12 180 yX12_retryCell cX12_retryCell 6 (some FieldType.int) 2 := ⟨kw_1572, kw_1574, ks_62, kw_11, kw_1575, by decide, by decide, by decide +kernel⟩
theorem ml_X12_183 : ch_LV RX12 183 yX12_count cX12_count 2 none 1 := ⟨kw_1580, kw_1582, ks_64, kw_11, kw_1583, by decide, by decide, by decide +kernel⟩
theorem ml_X12_186 : ch_LV RX12 186 yX12_hasRoom cX12_hasRoom 2 (some FieldType.boolean) 1 := ⟨kw_1584, kw_1586, ks_65, kw_11, kw_1587, by decide, by decide, by decide +kernel⟩
theorem ml_X12_189 : ch_LV RX12 189 yX12_request cX12_request 4 none 3 := ⟨kw_1588, kw_1590, ks_66, kw_11, kw_1591, by decide, by decide, by decide +kernel⟩
theorem ml_X12_192 : ch_LV RX12 192 yX12_tell cX12_tell 3 (some FieldType.int) 2 := ⟨kw_1596, kw_1598, ks_67, kw_11, kw_1599, by decide, by decide, by decide +kernel⟩
theorem ml_X12_195 : ch_LV RX12 195 yX12_end cX12_end 2 none 1 := ⟨kw_1600, kw_1602, ks_68, kw_11, kw_1603, by decide, by decide, by decide +kernel⟩
theorem ml_X12_198 : ch_LV RX12 198 yX12_isBarredNow cX12_isBarredNow 3 (some FieldType.boolean) 2 := ⟨kw_1657, kw_1659, ks_80, kw_11, kw_1660, by decide, by decide, by decide +kernel⟩
theorem ml_X12_201 : ch_LV RX12 201 yX12_addToRelation cX12_addToRelation 3 none 2 := ⟨kw_1661, kw_1663, ks_81, kw_11, kw_1664, by decide, by decide, by decide +kernel⟩
theorem ml_X12_204 : ch_LV RX12 204 yX12_averageOf cX12_averageOf 6 (some FieldType.int) 2 := ⟨kw_1645, kw_1647, ks_77, kw_11, kw_1648, by decide, by decide, by decide +kernel⟩
theorem ml_X12_210 : ch_LV RX12 210 yX12_isEmergency cX12_isEmergency 3 (some FieldType.boolean) 1 := ⟨kw_1677, kw_1679, ks_85, kw_11, kw_1680, by decide, by decide, by decide +kernel⟩
theorem ml_X12_213 : ch_LV RX12 213 yX12_marginOf cX12_marginOf 7 (some FieldType.int) 3 := ⟨kw_1681, kw_1683, ks_86, kw_11, kw_1684, by decide, by decide, by decide +kernel⟩
theorem ml_X12_217 : ch_LV RX12 217 yX12_rank cX12_rank 5 none 1 := ⟨kw_1673, kw_1675, ks_84, kw_11, kw_1676, by decide, by decide, by decide +kernel⟩
theorem ml_X12_220 : ch_LV RX12 220 yX12_handOver cX12_handOver 4 none 2 := ⟨kw_1653, kw_1655, ks_79, kw_11, kw_1656, by decide, by decide, by decide +kernel⟩
theorem ms_X12_223 : ch_LS RX12 223 yJ9_min_7cf53 cJ9_min_7cf53 2 (some FieldType.int) 2 := ⟨kw_1624, kw_486, kw_16, kw_487, by decide, by decide, by decide +kernel⟩
theorem ml_X12_226 : ch_LV RX12 226 yX12_hasRequest cX12_hasRequest 2 (some FieldType.boolean) 1 := ⟨kw_1665, kw_1667, ks_82, kw_11, kw_1668, by decide, by decide, by decide +kernel⟩
theorem ms_X12_229 : ch_LS RX12 229 yX12_moved cX12_moved 2 (some FieldType.int) 2 := ⟨kw_1621, kw_1622, kw_11, kw_1623, by decide, by decide, by decide +kernel⟩
theorem ml_X12_232 : ch_LV RX12 232 yX12_measure cX12_measure 4 none 1 := ⟨kw_1625, kw_1627, ks_72, kw_11, kw_1628, by decide, by decide, by decide +kernel⟩
theorem ml_X12_235 : ch_LV RX12 235 yX12_finish cX12_finish 2 none 1 := ⟨kw_1637, kw_1639, ks_75, kw_11, kw_1640, by decide, by decide, by decide +kernel⟩
theorem ml_X12_238 : ch_LV RX12 238 yX12_checkDrop cX12_checkDrop 3 none 1 := ⟨kw_1641, kw_1643, ks_76, kw_11, kw_1644, by decide, by decide, by decide +kernel⟩
theorem ml_X12_241 : ch_LV RX12 241 yX12_serve cX12_serve 3 none 1 := ⟨kw_1649, kw_1651, ks_78, kw_11, kw_1652, by decide, by decide, by decide +kernel⟩
theorem ml_X12_244 : ch_LV RX12 244 yX12_consider cX12_consider 4 none 1 := ⟨kw_1669, kw_1671, ks_83, kw_11, kw_1672, by decide, by decide, by decide +kernel⟩
theorem ml_X12_247 : ch_LV RX12 247 yX12_expire cX12_expire 2 none 1 := ⟨kw_1685, kw_1687, ks_87, kw_11, kw_1688, by decide, by decide, by decide +kernel⟩
theorem ml_X12_251 : ch_LV RX12 251 yX12_passTick cX12_passTick 3 none 0 := ⟨kw_1617, kw_1619, ks_71, kw_11, kw_1620, by decide, by decide, by decide +kernel⟩
theorem ml_X12_254 : ch_LV RX12 254 yX12_canRun cX12_canRun 3 (some FieldType.boolean) 2 := ⟨kw_1608, kw_1610, ks_69, kw_11, kw_1611, by decide, by decide, by decide +kernel⟩
theorem ml_X12_257 : ch_LV RX12 257 yX12_pass cX12_pass 3 none 1 := ⟨kw_1613, kw_1615, ks_70, kw_11, kw_1616, by decide, by decide, by decide +kernel⟩
theorem ms_X12_260 : ch_LS RX12 260 yX12_isSpeed cX12_isSpeed 1 (some FieldType.boolean) 1 := ⟨kw_1693, kw_1694, kw_11, kw_1695, by decide, by decide, by decide +kernel⟩
theorem ml_X12_263 : ch_LV RX12 263 yX12_arePair cX12_arePair 3 (some FieldType.boolean) 2 := ⟨kw_1732, kw_1734, ks_88, kw_11, kw_1735, by decide, by decide, by decide +kernel⟩
theorem ms_X12_266 : ch_LS RX12 266 yX12_copy cX12_copy 5 none 4 := ⟨kw_1553, kw_1554, kw_11, kw_1555, by decide, by decide, by decide +kernel⟩
theorem ml_X12_283 : ch_LV RX12 283 yX12_byteAt cX12_byteAt 2 (some FieldType.int) 1 := ⟨kw_1792, kw_1794, ks_91, kw_11, kw_1795, by decide, by decide, by decide +kernel⟩
theorem ml_X12_295 : ch_LV RX12 295 yX12_isLetter cX12_isLetter 2 (some FieldType.boolean) 1 := ⟨kw_1796, kw_1798, ks_92, kw_11, kw_1799, by decide, by decide, by decide +kernel⟩
theorem ml_X12_298 : ch_LV RX12 298 yX12_isDigit cX12_isDigit 2 (some FieldType.boolean) 1 := ⟨kw_1800, kw_1802, ks_93, kw_11, kw_1803, by decide, by decide, by decide +kernel⟩
theorem ml_X12_307 : ch_LV RX12 307 yX12_scan cX12_scan 1 none 0 := ⟨kw_1788, kw_1790, ks_90, kw_11, kw_1791, by decide, by decide, by decide +kernel⟩
theorem ml_X12_313 : ch_LV RX12 313 yX12_fail cX12_fail 2 none 1 := ⟨kw_1818, kw_1820, ks_97, kw_11, kw_1821, by decide, by decide, by decide +kernel⟩
theorem ml_X12_316 : ch_LV RX12 316 yJ0_length_8abf5 cJ0_length_8abf5 1 (some FieldType.int) 0 := ⟨kw_1808, kw_641, kw_642, kw_19, kw_643, by decide, by decide, by decide +kernel⟩
theorem ml_X12_320 : ch_LV RX12 320 yJ0_charAt_5068e cJ0_charAt_5068e 2 (some FieldType.char) 1 := ⟨kw_1809, kw_651, kw_652, kw_19, kw_653, by decide, by decide, by decide +kernel⟩
theorem ml_X12_324 : ch_LV RX12 324 yX12_isWord cX12_isWord 4 (some FieldType.boolean) 1 := ⟨kw_1804, kw_1806, ks_94, kw_11, kw_1807, by decide, by decide, by decide +kernel⟩
theorem ml_X12_328 : ch_LV RX12 328 yX12_check cX12_check 3 none 2 := ⟨kw_1814, kw_1816, ks_96, kw_11, kw_1817, by decide, by decide, by decide +kernel⟩
theorem ml_X12_332 : ch_LV RX12 332 yX12_advance cX12_advance 1 none 0 := ⟨kw_1822, kw_1824, ks_98, kw_11, kw_1825, by decide, by decide, by decide +kernel⟩
theorem ml_X12_335 : ch_LV RX12 335 yX12_isSymbol cX12_isSymbol 2 (some FieldType.boolean) 1 := ⟨kw_1861, kw_1863, ks_107, kw_11, kw_1864, by decide, by decide, by decide +kernel⟩
theorem ml_X12_339 : ch_LV RX12 339 yX12_value cX12_value 3 (some FieldType.int) 0 := ⟨kw_1834, kw_1836, ks_101, kw_11, kw_1837, by decide, by decide, by decide +kernel⟩
theorem ml_X12_342 : ch_LV RX12 342 yX12_number cX12_number 4 (some FieldType.int) 2 := ⟨kw_1830, kw_1832, ks_100, kw_11, kw_1833, by decide, by decide, by decide +kernel⟩
theorem ml_X12_345 : ch_LV RX12 345 yX12_putNumber cX12_putNumber 5 none 3 := ⟨kw_1826, kw_1828, ks_99, kw_11, kw_1829, by decide, by decide, by decide +kernel⟩
theorem ml_X12_348 : ch_LV RX12 348 yX12_existing cX12_existing 1 (some FieldType.int) 0 := ⟨kw_1844, kw_1846, ks_103, kw_11, kw_1847, by decide, by decide, by decide +kernel⟩
theorem ml_X12_353 : ch_LV RX12 353 yX12_expectWord cX12_expectWord 2 none 1 := ⟨kw_1853, kw_1855, ks_105, kw_11, kw_1856, by decide, by decide, by decide +kernel⟩
theorem ml_X12_357 : ch_LV RX12 357 yX12_start cX12_start 2 none 1 := ⟨kw_1784, kw_1786, ks_89, kw_11, kw_1787, by decide, by decide, by decide +kernel⟩
theorem ml_X12_360 : ch_LV RX12 360 yX12_readCell cX12_readCell 2 none 0 := ⟨kw_1810, kw_1812, ks_95, kw_11, kw_1813, by decide, by decide, by decide +kernel⟩
theorem ml_X12_365 : ch_LV RX12 365 yX12_readRelation cX12_readRelation 4 none 0 := ⟨kw_1840, kw_1842, ks_102, kw_11, kw_1843, by decide, by decide, by decide +kernel⟩
theorem ml_X12_368 : ch_LV RX12 368 yX12_readSettings cX12_readSettings 1 none 0 := ⟨kw_1848, kw_1850, ks_104, kw_11, kw_1851, by decide, by decide, by decide +kernel⟩
theorem ml_X12_371 : ch_LV RX12 371 yX12_expect cX12_expect 2 none 1 := ⟨kw_1857, kw_1859, ks_106, kw_11, kw_1860, by decide, by decide, by decide +kernel⟩
theorem ml_X12_374 : ch_LV RX12 374 yX12_finish_ cX12_finish_ 1 (some FieldType.int) 0 := ⟨kw_1865, kw_1867, ks_108, kw_11, kw_1868, by decide, by decide, by decide +kernel⟩
theorem ml_X12_379 : ch_LV RX12 379 yX12_emit cX12_emit 2 none 1 := ⟨kw_1892, kw_1894, ks_113, kw_11, kw_1895, by decide, by decide, by decide +kernel⟩
theorem ml_X12_384 : ch_LV RX12 384 yX12_enter cX12_enter 1 none 0 := ⟨kw_1888, kw_1890, ks_112, kw_11, kw_1891, by decide, by decide, by decide +kernel⟩
theorem ml_X12_387 : ch_LV RX12 387 yX12_compileFactor cX12_compileFactor 2 none 0 := ⟨kw_1883, kw_1885, ks_111, kw_11, kw_1886, by decide, by decide, by decide +kernel⟩
theorem ml_X12_390 : ch_LV RX12 390 yX12_compileTest cX12_compileTest 1 none 0 := ⟨kw_1875, kw_1877, ks_109, kw_11, kw_1878, by decide, by decide, by decide +kernel⟩
theorem ml_X12_393 : ch_LV RX12 393 yX12_compileValue cX12_compileValue 2 none 0 := ⟨kw_1896, kw_1898, ks_114, kw_11, kw_1899, by decide, by decide, by decide +kernel⟩
theorem ml_X12_398 : ch_LV RX12 398 yX12_accept cX12_accept 3 (some FieldType.boolean) 1 := ⟨kw_1901, kw_1903, ks_115, kw_11, kw_1904, by decide, by decide, by decide +kernel⟩
theorem ml_X12_401 : ch_LV RX12 401 yX12_compileConjunction cX12_compileConjunction 1 none 0 := ⟨kw_1879, kw_1881, ks_110, kw_11, kw_1882, by decide, by decide, by decide +kernel⟩
theorem ml_X12_406 : ch_LV RX12 406 yX12_property cX12_property 3 (some FieldType.int) 2 := ⟨kw_1911, kw_1913, ks_117, kw_11, kw_1914, by decide, by decide, by decide +kernel⟩
theorem ms_X12_409 : ch_LS RX12 409 yX12_operate cX12_operate 3 (some FieldType.int) 3 := ⟨kw_1915, kw_1916, kw_11, kw_1917, by decide, by decide, by decide +kernel⟩
theorem ml_X12_417 : ch_LV RX12 417 yX12_holds cX12_holds 5 (some FieldType.boolean) 1 := ⟨kw_1907, kw_1909, ks_116, kw_11, kw_1910, by decide, by decide, by decide +kernel⟩
theorem ml_J0_335 : ch_LV RJ0 335 yJ0_coder_7d493 cJ0_coder_7d493 1 (some FieldType.byte) 0 := ⟨kw_644, kw_645, kw_646, kw_19, kw_647, by decide, by decide, by decide +kernel⟩
theorem ml_J0_492 : ch_LV RJ0 492 yJ0_isLatin1_aae02 cJ0_isLatin1_aae02 1 (some FieldType.boolean) 0 := ⟨kw_654, kw_655, kw_656, kw_19, kw_657, by decide, by decide, by decide +kernel⟩
theorem ms_J0_495 : ch_LS RJ0 495 yJ1_charAt_3b067 cJ1_charAt_3b067 2 (some FieldType.char) 2 := ⟨kw_658, kw_659, kw_20, kw_660, by decide, by decide, by decide +kernel⟩
theorem ms_J0_498 : ch_LS RJ0 498 yJ2_charAt_3b067 cJ2_charAt_3b067 2 (some FieldType.char) 2 := ⟨kw_669, kw_670, kw_22, kw_671, by decide, by decide, by decide +kernel⟩
theorem ms_J0_1059 : ch_LS RJ0 1059 yJ3_checkIndex_8e157 cJ3_checkIndex_8e157 3 (some FieldType.int) 3 := ⟨kw_666, kw_667, kw_21, kw_668, by decide, by decide, by decide +kernel⟩
theorem ms_J1_9 : ch_LS RJ1 9 yJ0_checkIndex_df160 cJ0_checkIndex_df160 2 none 2 := ⟨kw_661, kw_662, kw_19, kw_663, by decide, by decide, by decide +kernel⟩
theorem ms_J2_48 : ch_LS RJ2 48 yJ2_length_9d52b cJ2_length_9d52b 1 (some FieldType.int) 1 := ⟨kw_675, kw_676, kw_22, kw_677, by decide, by decide, by decide +kernel⟩
theorem ms_J2_67 : ch_LS RJ2 67 yJ2_checkIndex_2214a cJ2_checkIndex_2214a 2 none 2 := ⟨kw_672, kw_673, kw_22, kw_674, by decide, by decide, by decide +kernel⟩
theorem ms_J2_71 : ch_LS RJ2 71 yJ2_getChar_3b067 cJ2_getChar_3b067 2 (some FieldType.char) 2 := ⟨kw_679, kw_680, kw_22, kw_681, by decide, by decide, by decide +kernel⟩
theorem ms_J2_414 : ch_LS RJ2 414 yJ0_checkIndex_df160 cJ0_checkIndex_df160 2 none 2 := ⟨kw_678, kw_662, kw_19, kw_663, by decide, by decide, by decide +kernel⟩
theorem ik_m1 : Int32.ofInt (-1) = (-1) := by decide
theorem ik_0 : Int32.ofInt 0 = 0 := by decide
theorem ik_1 : Int32.ofInt 1 = 1 := by decide
theorem ik_2 : Int32.ofInt 2 = 2 := by decide
theorem ik_3 : Int32.ofInt 3 = 3 := by decide
theorem ik_4 : Int32.ofInt 4 = 4 := by decide
theorem ik_5 : Int32.ofInt 5 = 5 := by decide
theorem bk_m10 : (Int8.ofInt (-10)).toInt32 = (-10) := by decide
theorem bk_m2 : (Int8.ofInt (-2)).toInt32 = (-2) := by decide
theorem bk_m20 : (Int8.ofInt (-20)).toInt32 = (-20) := by decide
theorem bk_m21 : (Int8.ofInt (-21)).toInt32 = (-21) := by decide
theorem bk_m22 : (Int8.ofInt (-22)).toInt32 = (-22) := by decide
theorem bk_m23 : (Int8.ofInt (-23)).toInt32 = (-23) := by decide
theorem bk_m24 : (Int8.ofInt (-24)).toInt32 = (-24) := by decide
theorem bk_m25 : (Int8.ofInt (-25)).toInt32 = (-25) := by decide
theorem bk_m3 : (Int8.ofInt (-3)).toInt32 = (-3) := by decide
theorem bk_m4 : (Int8.ofInt (-4)).toInt32 = (-4) := by decide
theorem bk_m5 : (Int8.ofInt (-5)).toInt32 = (-5) := by decide
theorem bk_m99 : (Int8.ofInt (-99)).toInt32 = (-99) := by decide
theorem bk_10 : (Int8.ofInt 10).toInt32 = 10 := by decide
theorem bk_100 : (Int8.ofInt 100).toInt32 = 100 := by decide
theorem bk_11 : (Int8.ofInt 11).toInt32 = 11 := by decide
theorem bk_12 : (Int8.ofInt 12).toInt32 = 12 := by decide
theorem bk_122 : (Int8.ofInt 122).toInt32 = 122 := by decide
theorem bk_13 : (Int8.ofInt 13).toInt32 = 13 := by decide
theorem bk_16 : (Int8.ofInt 16).toInt32 = 16 := by decide
theorem bk_18 : (Int8.ofInt 18).toInt32 = 18 := by decide
theorem bk_19 : (Int8.ofInt 19).toInt32 = 19 := by decide
theorem bk_20 : (Int8.ofInt 20).toInt32 = 20 := by decide
theorem bk_24 : (Int8.ofInt 24).toInt32 = 24 := by decide
theorem bk_27 : (Int8.ofInt 27).toInt32 = 27 := by decide
theorem bk_30 : (Int8.ofInt 30).toInt32 = 30 := by decide
theorem bk_32 : (Int8.ofInt 32).toInt32 = 32 := by decide
theorem bk_40 : (Int8.ofInt 40).toInt32 = 40 := by decide
theorem bk_41 : (Int8.ofInt 41).toInt32 = 41 := by decide
theorem bk_48 : (Int8.ofInt 48).toInt32 = 48 := by decide
theorem bk_50 : (Int8.ofInt 50).toInt32 = 50 := by decide
theorem bk_57 : (Int8.ofInt 57).toInt32 = 57 := by decide
theorem bk_59 : (Int8.ofInt 59).toInt32 = 59 := by decide
theorem bk_6 : (Int8.ofInt 6).toInt32 = 6 := by decide
theorem bk_60 : (Int8.ofInt 60).toInt32 = 60 := by decide
theorem bk_61 : (Int8.ofInt 61).toInt32 = 61 := by decide
theorem bk_62 : (Int8.ofInt 62).toInt32 = 62 := by decide
theorem bk_63 : (Int8.ofInt 63).toInt32 = 63 := by decide
theorem bk_64 : (Int8.ofInt 64).toInt32 = 64 := by decide
theorem bk_7 : (Int8.ofInt 7).toInt32 = 7 := by decide
theorem bk_8 : (Int8.ofInt 8).toInt32 = 8 := by decide
theorem bk_9 : (Int8.ofInt 9).toInt32 = 9 := by decide
theorem bk_90 : (Int8.ofInt 90).toInt32 = 90 := by decide
theorem bk_91 : (Int8.ofInt 91).toInt32 = 91 := by decide
theorem bk_97 : (Int8.ofInt 97).toInt32 = 97 := by decide
theorem bk_99 : (Int8.ofInt 99).toInt32 = 99 := by decide
theorem sk_1302 : (Int16.ofInt 1302).toInt32 = 1302 := by decide
theorem sk_15624 : (Int16.ofInt 15624).toInt32 = 15624 := by decide
theorem sk_200 : (Int16.ofInt 200).toInt32 = 200 := by decide
theorem sk_210 : (Int16.ofInt 210).toInt32 = 210 := by decide
theorem sk_255 : (Int16.ofInt 255).toInt32 = 255 := by decide
theorem sk_500 : (Int16.ofInt 500).toInt32 = 500 := by decide
theorem sk_680 : (Int16.ofInt 680).toInt32 = 680 := by decide
theorem sk_700 : (Int16.ofInt 700).toInt32 = 700 := by decide
theorem sk_999 : (Int16.ofInt 999).toInt32 = 999 := by decide
theorem sk_9999 : (Int16.ofInt 9999).toInt32 = 9999 := by decide
