/-! THE LAW'S BODY, a case at a time -/
/-- the names and the memory between two calls -/
def lw_S (E : ch_E) (S : ch_S) (μ : ch_M) (xa ma oa : Nat) : Prop := ch_Std E S ∧ S.2.1 17 34 0 ∧ S.1 15 11 0 = xa ∧ S.1 16 22 0 = ma ∧ S.1 17 34 0 = oa ∧ k_INV μ
/-- what the body stands on -/
def lw_X (X : ch_X) (E : ch_E) (b N : Nat) (xs : Nat → Int32) : Prop := ch_H X E RL cL_law 7 ∧ ch_G X 800 601024 7293034 ∧ va_X b N xs (x_s X) (x_s X).heap ∧ b < (x_s X).heap.size ∧ b < E.1 ∧ (x_l X).stackTraces = false
theorem lw_in {i j N : Nat} (h : 6 * i + 6 ≤ N) (hj : j < 6) (hN : N ≤ 3072) : vp_in (nI (6 * i) + nI j) N := by
  rw [nI_add]; exact vp_in_nI (by omega) (by omega)
theorem lw_ble {d D : Nat} (h : d + 1 ≤ D) : Nat.ble (d + 1) D = true := Nat.ble_eq_true_of_le h
set_option maxHeartbeats 400000 in
theorem lw_c0 {X : ch_X} {E : ch_E} {b N : Nat} {xs : Nat → Int32} (K : lw_X X E b N xs) {i : Nat} (hi : 6 * i + 6 ≤ N) (hN : N ≤ 3072) {kc ks : Nat} (hkc : kc + 1 ≤ 601024 ∧ ks + 6 ≤ 7293034) {S : ch_S} {μ : ch_M} {xa ma oa : Nat} (hL : lw_S E S μ xa ma oa) (kk : ∀ S' μ', lw_S E S' μ' xa ma oa → ch_W X E 7 S' μ' (kc + 1) (ks + 6) 2444 [(0, .ref b), (1, .ref xa), (2, .ref ma), (3, .ref oa), (4, .int (nI (6 * i)))] []) : ch_W X E 7 S μ kc ks 224 [(0, .ref b), (1, .ref xa), (2, .ref ma), (3, .ref oa), (4, .int (nI (6 * i)))] [] := by
  obtain ⟨h, hG, hX, hbl, hbA, hl⟩ := K
  obtain ⟨hs, h34, rfl, rfl, rfl, hI⟩ := hL
  obtain ⟨r, M, hX9, hM9⟩ := k_d_feed (l := x_l X) hs hI (x1 := (xs (Int32.toNatClampNeg (nI (6 * i) + 1)))) (x2 := (xs (Int32.toNatClampNeg (nI (6 * i) + 2)))) (x3 := (xs (Int32.toNatClampNeg (nI (6 * i) + 3)))) (x4 := (xs (Int32.toNatClampNeg (nI (6 * i) + 4)))) (x5 := (xs (Int32.toNatClampNeg (nI (6 * i) + 5))))
  refine ca_aload_nr h dL_law_224 rfl ?_
  refine ca_aload_nr h dL_law_225 rfl ?_
  refine ca_iload h dL_law_226 rfl ?_
  refine ca_iconst h dL_law_228 ik_1 ?_
  refine ca_iadd h dL_law_229 ?_
  refine ca_sld h hX hbl hbA (show vp_in (nI (6 * i) + nI 1) N from lw_in hi (by decide) hN) dL_law_230 ?_
  refine ca_aload_nr h dL_law_231 rfl ?_
  refine ca_iload h dL_law_232 rfl ?_
  refine ca_iconst h dL_law_234 ik_2 ?_
  refine ca_iadd h dL_law_235 ?_
  refine ca_sld h hX hbl hbA (show vp_in (nI (6 * i) + nI 2) N from lw_in hi (by decide) hN) dL_law_236 ?_
  refine ca_aload_nr h dL_law_237 rfl ?_
  refine ca_iload h dL_law_238 rfl ?_
  refine ca_iconst h dL_law_240 ik_3 ?_
  refine ca_iadd h dL_law_241 ?_
  refine ca_sld h hX hbl hbA (show vp_in (nI (6 * i) + nI 3) N from lw_in hi (by decide) hN) dL_law_242 ?_
  refine ca_aload_nr h dL_law_243 rfl ?_
  refine ca_iload h dL_law_244 rfl ?_
  refine ca_iconst h dL_law_246 ik_4 ?_
  refine ca_iadd h dL_law_247 ?_
  refine ca_sld h hX hbl hbA (show vp_in (nI (6 * i) + nI 4) N from lw_in hi (by decide) hN) dL_law_248 ?_
  refine ca_aload_nr h dL_law_249 rfl ?_
  refine ca_iload h dL_law_250 rfl ?_
  refine ca_iconst h dL_law_252 ik_5 ?_
  refine ca_iadd h dL_law_253 ?_
  refine ca_sld h hX hbl hbA (show vp_in (nI (6 * i) + nI 5) N from lw_in hi (by decide) hN) dL_law_254 ?_
  refine ca_vi h hG ml_L_115 hX9 (ci := 11) rfl rfl rfl (hs.1 15 11 0 ⟨rfl, rfl⟩) rfl rfl rfl rfl ⟨by omega, by omega⟩ rfl dL_law_255 ?_
  refine ca_aload_nr h dL_law_258 rfl ?_
  refine ca_aload_nr h dL_law_259 rfl ?_
  refine ca_iload h dL_law_260 rfl ?_
  refine ca_iconst h dL_law_262 ik_1 ?_
  refine ca_iadd h dL_law_263 ?_
  refine ca_sld h hX hbl hbA (show vp_in (nI (6 * i) + nI 1) N from lw_in hi (by decide) hN) dL_law_264 ?_
  refine ca_aload_nr h dL_law_265 rfl ?_
  refine ca_iload h dL_law_266 rfl ?_
  refine ca_iconst h dL_law_268 ik_2 ?_
  refine ca_iadd h dL_law_269 ?_
  refine ca_sld h hX hbl hbA (show vp_in (nI (6 * i) + nI 2) N from lw_in hi (by decide) hN) dL_law_270 ?_
  refine ca_aload_nr h dL_law_271 rfl ?_
  refine ca_iload h dL_law_272 rfl ?_
  refine ca_iconst h dL_law_274 ik_3 ?_
  refine ca_iadd h dL_law_275 ?_
  refine ca_sld h hX hbl hbA (show vp_in (nI (6 * i) + nI 3) N from lw_in hi (by decide) hN) dL_law_276 ?_
  refine ca_aload_nr h dL_law_277 rfl ?_
  refine ca_iload h dL_law_278 rfl ?_
  refine ca_iconst h dL_law_280 ik_4 ?_
  refine ca_iadd h dL_law_281 ?_
  refine ca_sld h hX hbl hbA (show vp_in (nI (6 * i) + nI 4) N from lw_in hi (by decide) hN) dL_law_282 ?_
  refine ca_aload_nr h dL_law_283 rfl ?_
  refine ca_iload h dL_law_284 rfl ?_
  refine ca_iconst h dL_law_286 ik_5 ?_
  refine ca_iadd h dL_law_287 ?_
  refine ca_sld h hX hbl hbA (show vp_in (nI (6 * i) + nI 5) N from lw_in hi (by decide) hN) dL_law_288 ?_
  refine ca_callV h hG ml_L_119 hM9 (ci := 12) (st := [.int r]) rfl rfl rfl (hs.1 16 22 0 ⟨rfl, rfl⟩) rfl rfl rfl rfl ⟨by omega, by omega⟩ (Nat.le_of_ble_eq_true rfl) dL_law_289 ?_
  rintro v S2 μ2 ⟨rfl, rfl, hI2⟩
  show ch_W X E 7 S2 μ2 (kc + 0) (ks + 0) 292 [(0, .ref b), (1, .ref (S2.1 15 11 0)), (2, .ref (S2.1 16 22 0)), (3, .ref (S2.1 17 34 0)), (4, .int (nI (6 * i)))] [.int r, .int r]
  refine ca_icmp_eq (tgt := 2444) h dL_law_292 (by decide) (fun _ => ?_) (fun c9 => absurd rfl c9)
  refine ca_pick [0, 1, 2, 3, 4] rfl ?_
  refine ca_widen (k := kc + 1) (n := ks + 6) (by omega) (by omega) ?_
  exact kk S2 μ2 ⟨hs, h34, rfl, rfl, rfl, hI2⟩
set_option maxHeartbeats 400000 in
theorem lw_c1 {X : ch_X} {E : ch_E} {b N : Nat} {xs : Nat → Int32} (K : lw_X X E b N xs) {i : Nat} (hi : 6 * i + 6 ≤ N) (hN : N ≤ 3072) {kc ks : Nat} (hkc : kc + 1 ≤ 601024 ∧ ks + 6 ≤ 7293034) {S : ch_S} {μ : ch_M} {xa ma oa : Nat} (hL : lw_S E S μ xa ma oa) (kk : ∀ S' μ', lw_S E S' μ' xa ma oa → ch_W X E 7 S' μ' (kc + 1) (ks + 6) 2444 [(0, .ref b), (1, .ref xa), (2, .ref ma), (3, .ref oa), (4, .int (nI (6 * i)))] []) : ch_W X E 7 S μ kc ks 297 [(0, .ref b), (1, .ref xa), (2, .ref ma), (3, .ref oa), (4, .int (nI (6 * i)))] [] := by
  obtain ⟨h, hG, hX, hbl, hbA, hl⟩ := K
  obtain ⟨hs, h34, rfl, rfl, rfl, hI⟩ := hL
  obtain ⟨k, M, dd, mc, ms, hd9, hmc, hms, hH, hR9⟩ := k_c_load (l := x_l X) hl hs h34 hI (x1 := (xs (Int32.toNatClampNeg (nI (6 * i) + 1))))
  refine ca_aload_nr h dL_law_297 rfl ?_
  refine ca_aload_nr h dL_law_298 rfl ?_
  refine ca_iload h dL_law_299 rfl ?_
  refine ca_iconst h dL_law_301 ik_1 ?_
  refine ca_iadd h dL_law_302 ?_
  refine ca_sld h hX hbl hbA (show vp_in (nI (6 * i) + nI 1) N from lw_in hi (by decide) hN) dL_law_303 ?_
  refine ca_aload_nr h dL_law_304 rfl ?_
  refine ca_callSW h hG kw_505 kw_506 kw_0 kw_507 (n := 3) ⟨by decide, by decide, by decide +kernel⟩ hH (st := []) rfl rfl (lw_ble (by omega)) rfl ⟨by omega, by omega⟩ rfl dL_law_305 ?_
  rintro v S' μ' ⟨rfl, hs', g, g2, rfl⟩
  show ch_W X E 7 S' μ' (kc + mc) (ks + ms) 308 [(0, .ref b), (1, .ref (S.1 15 11 0)), (2, .ref (S.1 16 22 0)), (3, .ref (S.1 17 34 0)), (4, .int (nI (6 * i)))] [.int k]
  rw [← g 15 11 0 (by decide), ← g 16 22 0 (by decide), ← g 17 34 0 (by decide)] at kk ⊢
  have h34' := g2 17 34 0 h34
  refine ca_istore h dL_law_308 rfl ?_
  refine ca_aload_nr h dL_law_310 rfl ?_
  refine ca_aload_nr h dL_law_311 rfl ?_
  refine ca_iload h dL_law_312 rfl ?_
  refine ca_iconst h dL_law_314 ik_1 ?_
  refine ca_iadd h dL_law_315 ?_
  refine ca_sld h hX hbl hbA (show vp_in (nI (6 * i) + nI 1) N from lw_in hi (by decide) hN) dL_law_316 ?_
  refine ca_callV h hG ml_L_125 (hR9 S' hs') (ci := 12) (st := []) rfl rfl rfl (hs'.1 16 22 0 ⟨rfl, rfl⟩) rfl rfl rfl rfl ⟨by omega, by omega⟩ (Nat.zero_le _) dL_law_317 ?_
  rintro v S2 μ2 ⟨z, rfl, rfl, h6, hI2, hz, hzb⟩
  show ch_W X E 7 S2 μ2 (kc + mc + 0) (ks + ms + 0) 320 [(5, .int k), (0, .ref b), (1, .ref (S2.1 15 11 0)), (2, .ref (S2.1 16 22 0)), (3, .ref (S2.1 17 34 0)), (4, .int (nI (6 * i)))] [.int z]
  have hs' := hs'
  refine ca_istore h dL_law_320 rfl ?_
  refine ca_aload_nr h dL_law_322 rfl ?_
  refine ca_vi h hG ml_L_126 (c_X12_thrown hs') (ci := 12) rfl rfl rfl (hs'.1 16 22 0 ⟨rfl, rfl⟩) rfl rfl rfl rfl ⟨by omega, by omega⟩ rfl dL_law_323 ?_
  rw [h6]
  refine ca_iload h dL_law_326 rfl ?_
  refine ca_icmp_eq (tgt := 333) h dL_law_328 (by decide) (fun _ => ?_) (fun c9 => absurd rfl c9)
  refine ca_iload h dL_law_333 rfl ?_
  refine ca_if_ne (tgt := 350) h dL_law_335 (by decide) (fun ck => ?_) (fun ck => ?_)
  ·
    refine ca_goto (tgt := 2444) h dL_law_350 (by decide) ?_
    refine ca_pick [2, 3, 4, 5, 6] rfl ?_
    refine ca_widen (k := kc + 1) (n := ks + 6) (by omega) (by omega) ?_
    exact kk S2 μ2 ⟨hs', h34', rfl, rfl, rfl, hI2⟩
  refine ca_aload_nr h dL_law_338 rfl ?_
  refine ca_iconst h dL_law_339 ik_0 ?_
  refine ca_lald h (k := 17) (kd := 34) (i := 0) (n := 1) rfl h34' rfl (show vp_in (nI 0) 1 from vp_in_nI (by decide) (by decide)) dL_law_340 ?_
  refine ca_iload h dL_law_341 rfl ?_
  refine ca_i2l h dL_law_343 ?_
  refine ca_lcmp0 h (congrArg Int32.toInt64 (hz ck)) dL_law_344 ?_
  refine ca_if_eq (tgt := 350) h dL_law_345 (by decide) (fun _ => ?_) (fun c9 => absurd rfl c9)
  refine ca_goto (tgt := 2444) h dL_law_350 (by decide) ?_
  refine ca_pick [2, 3, 4, 5, 6] rfl ?_
  refine ca_widen (k := kc + 1) (n := ks + 6) (by omega) (by omega) ?_
  exact kk S2 μ2 ⟨hs', h34', rfl, rfl, rfl, hI2⟩
set_option maxHeartbeats 400000 in
theorem lw_c2 {X : ch_X} {E : ch_E} {b N : Nat} {xs : Nat → Int32} (K : lw_X X E b N xs) {i : Nat} (hi : 6 * i + 6 ≤ N) (hN : N ≤ 3072) {kc ks : Nat} (hkc : kc + 1 ≤ 601024 ∧ ks + 6 ≤ 7293034) {S : ch_S} {μ : ch_M} {xa ma oa : Nat} (hL : lw_S E S μ xa ma oa) (kk : ∀ S' μ', lw_S E S' μ' xa ma oa → ch_W X E 7 S' μ' (kc + 1) (ks + 6) 2444 [(0, .ref b), (1, .ref xa), (2, .ref ma), (3, .ref oa), (4, .int (nI (6 * i)))] []) : ch_W X E 7 S μ kc ks 353 [(0, .ref b), (1, .ref xa), (2, .ref ma), (3, .ref oa), (4, .int (nI (6 * i)))] [] := by
  obtain ⟨h, hG, hX, hbl, hbA, hl⟩ := K
  obtain ⟨hs, h34, rfl, rfl, rfl, hI⟩ := hL
  obtain ⟨r, M, hX9, hM9⟩ := k_d_errorPosition (l := x_l X) hs hI
  refine ca_aload_nr h dL_law_353 rfl ?_
  refine ca_vi h hG ml_L_130 hX9 (ci := 11) rfl rfl rfl (hs.1 15 11 0 ⟨rfl, rfl⟩) rfl rfl rfl rfl ⟨by omega, by omega⟩ rfl dL_law_354 ?_
  refine ca_aload_nr h dL_law_357 rfl ?_
  refine ca_callV h hG ml_L_133 hM9 (ci := 12) (st := [.int r]) rfl rfl rfl (hs.1 16 22 0 ⟨rfl, rfl⟩) rfl rfl rfl rfl ⟨by omega, by omega⟩ (Nat.le_of_ble_eq_true rfl) dL_law_358 ?_
  rintro v S2 μ2 ⟨rfl, rfl, hI2⟩
  show ch_W X E 7 S2 μ2 (kc + 0) (ks + 0) 361 [(0, .ref b), (1, .ref (S2.1 15 11 0)), (2, .ref (S2.1 16 22 0)), (3, .ref (S2.1 17 34 0)), (4, .int (nI (6 * i)))] [.int r, .int r]
  refine ca_icmp_eq (tgt := 2444) h dL_law_361 (by decide) (fun _ => ?_) (fun c9 => absurd rfl c9)
  refine ca_pick [0, 1, 2, 3, 4] rfl ?_
  refine ca_widen (k := kc + 1) (n := ks + 6) (by omega) (by omega) ?_
  exact kk S2 μ2 ⟨hs, h34, rfl, rfl, rfl, hI2⟩
set_option maxHeartbeats 400000 in
theorem lw_c3 {X : ch_X} {E : ch_E} {b N : Nat} {xs : Nat → Int32} (K : lw_X X E b N xs) {i : Nat} (hi : 6 * i + 6 ≤ N) (hN : N ≤ 3072) {kc ks : Nat} (hkc : kc + 1 ≤ 601024 ∧ ks + 6 ≤ 7293034) {S : ch_S} {μ : ch_M} {xa ma oa : Nat} (hL : lw_S E S μ xa ma oa) (kk : ∀ S' μ', lw_S E S' μ' xa ma oa → ch_W X E 7 S' μ' (kc + 1) (ks + 6) 2444 [(0, .ref b), (1, .ref xa), (2, .ref ma), (3, .ref oa), (4, .int (nI (6 * i)))] []) : ch_W X E 7 S μ kc ks 366 [(0, .ref b), (1, .ref xa), (2, .ref ma), (3, .ref oa), (4, .int (nI (6 * i)))] [] := by
  obtain ⟨h, hG, hX, hbl, hbA, hl⟩ := K
  obtain ⟨hs, h34, rfl, rfl, rfl, hI⟩ := hL
  obtain ⟨r, M, hX9, hM9⟩ := k_d_cellCount (l := x_l X) hs hI
  refine ca_aload_nr h dL_law_366 rfl ?_
  refine ca_vi h hG ml_L_134 hX9 (ci := 11) rfl rfl rfl (hs.1 15 11 0 ⟨rfl, rfl⟩) rfl rfl rfl rfl ⟨by omega, by omega⟩ rfl dL_law_367 ?_
  refine ca_aload_nr h dL_law_370 rfl ?_
  refine ca_callV h hG ml_L_137 hM9 (ci := 12) (st := [.int r]) rfl rfl rfl (hs.1 16 22 0 ⟨rfl, rfl⟩) rfl rfl rfl rfl ⟨by omega, by omega⟩ (Nat.le_of_ble_eq_true rfl) dL_law_371 ?_
  rintro v S2 μ2 ⟨rfl, rfl, hI2⟩
  show ch_W X E 7 S2 μ2 (kc + 0) (ks + 0) 374 [(0, .ref b), (1, .ref (S2.1 15 11 0)), (2, .ref (S2.1 16 22 0)), (3, .ref (S2.1 17 34 0)), (4, .int (nI (6 * i)))] [.int r, .int r]
  refine ca_icmp_eq (tgt := 2444) h dL_law_374 (by decide) (fun _ => ?_) (fun c9 => absurd rfl c9)
  refine ca_pick [0, 1, 2, 3, 4] rfl ?_
  refine ca_widen (k := kc + 1) (n := ks + 6) (by omega) (by omega) ?_
  exact kk S2 μ2 ⟨hs, h34, rfl, rfl, rfl, hI2⟩
set_option maxHeartbeats 400000 in
theorem lw_c4 {X : ch_X} {E : ch_E} {b N : Nat} {xs : Nat → Int32} (K : lw_X X E b N xs) {i : Nat} (hi : 6 * i + 6 ≤ N) (hN : N ≤ 3072) {kc ks : Nat} (hkc : kc + 1 ≤ 601024 ∧ ks + 6 ≤ 7293034) {S : ch_S} {μ : ch_M} {xa ma oa : Nat} (hL : lw_S E S μ xa ma oa) (kk : ∀ S' μ', lw_S E S' μ' xa ma oa → ch_W X E 7 S' μ' (kc + 1) (ks + 6) 2444 [(0, .ref b), (1, .ref xa), (2, .ref ma), (3, .ref oa), (4, .int (nI (6 * i)))] []) : ch_W X E 7 S μ kc ks 379 [(0, .ref b), (1, .ref xa), (2, .ref ma), (3, .ref oa), (4, .int (nI (6 * i)))] [] := by
  obtain ⟨h, hG, hX, hbl, hbA, hl⟩ := K
  obtain ⟨hs, h34, rfl, rfl, rfl, hI⟩ := hL
  obtain ⟨r, M, hX9, hM9⟩ := k_d_relationCount (l := x_l X) hs hI
  refine ca_aload_nr h dL_law_379 rfl ?_
  refine ca_vi h hG ml_L_138 hX9 (ci := 11) rfl rfl rfl (hs.1 15 11 0 ⟨rfl, rfl⟩) rfl rfl rfl rfl ⟨by omega, by omega⟩ rfl dL_law_380 ?_
  refine ca_aload_nr h dL_law_383 rfl ?_
  refine ca_callV h hG ml_L_141 hM9 (ci := 12) (st := [.int r]) rfl rfl rfl (hs.1 16 22 0 ⟨rfl, rfl⟩) rfl rfl rfl rfl ⟨by omega, by omega⟩ (Nat.le_of_ble_eq_true rfl) dL_law_384 ?_
  rintro v S2 μ2 ⟨rfl, rfl, hI2⟩
  show ch_W X E 7 S2 μ2 (kc + 0) (ks + 0) 387 [(0, .ref b), (1, .ref (S2.1 15 11 0)), (2, .ref (S2.1 16 22 0)), (3, .ref (S2.1 17 34 0)), (4, .int (nI (6 * i)))] [.int r, .int r]
  refine ca_icmp_eq (tgt := 2444) h dL_law_387 (by decide) (fun _ => ?_) (fun c9 => absurd rfl c9)
  refine ca_pick [0, 1, 2, 3, 4] rfl ?_
  refine ca_widen (k := kc + 1) (n := ks + 6) (by omega) (by omega) ?_
  exact kk S2 μ2 ⟨hs, h34, rfl, rfl, rfl, hI2⟩
set_option maxHeartbeats 400000 in
theorem lw_c5 {X : ch_X} {E : ch_E} {b N : Nat} {xs : Nat → Int32} (K : lw_X X E b N xs) {i : Nat} (hi : 6 * i + 6 ≤ N) (hN : N ≤ 3072) {kc ks : Nat} (hkc : kc + 1 ≤ 601024 ∧ ks + 6 ≤ 7293034) {S : ch_S} {μ : ch_M} {xa ma oa : Nat} (hL : lw_S E S μ xa ma oa) (kk : ∀ S' μ', lw_S E S' μ' xa ma oa → ch_W X E 7 S' μ' (kc + 1) (ks + 6) 2444 [(0, .ref b), (1, .ref xa), (2, .ref ma), (3, .ref oa), (4, .int (nI (6 * i)))] []) : ch_W X E 7 S μ kc ks 392 [(0, .ref b), (1, .ref xa), (2, .ref ma), (3, .ref oa), (4, .int (nI (6 * i)))] [] := by
  obtain ⟨h, hG, hX, hbl, hbA, hl⟩ := K
  obtain ⟨hs, h34, rfl, rfl, rfl, hI⟩ := hL
  obtain ⟨r, M, hX9, hM9⟩ := k_d_mobileCount (l := x_l X) hs hI
  refine ca_aload_nr h dL_law_392 rfl ?_
  refine ca_vi h hG ml_L_142 hX9 (ci := 11) rfl rfl rfl (hs.1 15 11 0 ⟨rfl, rfl⟩) rfl rfl rfl rfl ⟨by omega, by omega⟩ rfl dL_law_393 ?_
  refine ca_aload_nr h dL_law_396 rfl ?_
  refine ca_callV h hG ml_L_145 hM9 (ci := 12) (st := [.int r]) rfl rfl rfl (hs.1 16 22 0 ⟨rfl, rfl⟩) rfl rfl rfl rfl ⟨by omega, by omega⟩ (Nat.le_of_ble_eq_true rfl) dL_law_397 ?_
  rintro v S2 μ2 ⟨rfl, rfl, hI2⟩
  show ch_W X E 7 S2 μ2 (kc + 0) (ks + 0) 400 [(0, .ref b), (1, .ref (S2.1 15 11 0)), (2, .ref (S2.1 16 22 0)), (3, .ref (S2.1 17 34 0)), (4, .int (nI (6 * i)))] [.int r, .int r]
  refine ca_icmp_eq (tgt := 2444) h dL_law_400 (by decide) (fun _ => ?_) (fun c9 => absurd rfl c9)
  refine ca_pick [0, 1, 2, 3, 4] rfl ?_
  refine ca_widen (k := kc + 1) (n := ks + 6) (by omega) (by omega) ?_
  exact kk S2 μ2 ⟨hs, h34, rfl, rfl, rfl, hI2⟩
set_option maxHeartbeats 400000 in
theorem lw_c6 {X : ch_X} {E : ch_E} {b N : Nat} {xs : Nat → Int32} (K : lw_X X E b N xs) {i : Nat} (hi : 6 * i + 6 ≤ N) (hN : N ≤ 3072) {kc ks : Nat} (hkc : kc + 1 ≤ 601024 ∧ ks + 6 ≤ 7293034) {S : ch_S} {μ : ch_M} {xa ma oa : Nat} (hL : lw_S E S μ xa ma oa) (kk : ∀ S' μ', lw_S E S' μ' xa ma oa → ch_W X E 7 S' μ' (kc + 1) (ks + 6) 2444 [(0, .ref b), (1, .ref xa), (2, .ref ma), (3, .ref oa), (4, .int (nI (6 * i)))] []) : ch_W X E 7 S μ kc ks 405 [(0, .ref b), (1, .ref xa), (2, .ref ma), (3, .ref oa), (4, .int (nI (6 * i)))] [] := by
  obtain ⟨h, hG, hX, hbl, hbA, hl⟩ := K
  obtain ⟨hs, h34, rfl, rfl, rfl, hI⟩ := hL
  obtain ⟨r, M, hX9, hM9⟩ := k_d_clock (l := x_l X) hs hI
  refine ca_aload_nr h dL_law_405 rfl ?_
  refine ca_vi h hG ml_L_146 hX9 (ci := 11) rfl rfl rfl (hs.1 15 11 0 ⟨rfl, rfl⟩) rfl rfl rfl rfl ⟨by omega, by omega⟩ rfl dL_law_406 ?_
  refine ca_aload_nr h dL_law_409 rfl ?_
  refine ca_callV h hG ml_L_149 hM9 (ci := 12) (st := [.int r]) rfl rfl rfl (hs.1 16 22 0 ⟨rfl, rfl⟩) rfl rfl rfl rfl ⟨by omega, by omega⟩ (Nat.le_of_ble_eq_true rfl) dL_law_410 ?_
  rintro v S2 μ2 ⟨rfl, rfl, hI2⟩
  show ch_W X E 7 S2 μ2 (kc + 0) (ks + 0) 413 [(0, .ref b), (1, .ref (S2.1 15 11 0)), (2, .ref (S2.1 16 22 0)), (3, .ref (S2.1 17 34 0)), (4, .int (nI (6 * i)))] [.int r, .int r]
  refine ca_icmp_eq (tgt := 2444) h dL_law_413 (by decide) (fun _ => ?_) (fun c9 => absurd rfl c9)
  refine ca_pick [0, 1, 2, 3, 4] rfl ?_
  refine ca_widen (k := kc + 1) (n := ks + 6) (by omega) (by omega) ?_
  exact kk S2 μ2 ⟨hs, h34, rfl, rfl, rfl, hI2⟩
set_option maxHeartbeats 400000 in
theorem lw_c7 {X : ch_X} {E : ch_E} {b N : Nat} {xs : Nat → Int32} (K : lw_X X E b N xs) {i : Nat} (hi : 6 * i + 6 ≤ N) (hN : N ≤ 3072) {kc ks : Nat} (hkc : kc + 1 ≤ 601024 ∧ ks + 6 ≤ 7293034) {S : ch_S} {μ : ch_M} {xa ma oa : Nat} (hL : lw_S E S μ xa ma oa) (kk : ∀ S' μ', lw_S E S' μ' xa ma oa → ch_W X E 7 S' μ' (kc + 1) (ks + 6) 2444 [(0, .ref b), (1, .ref xa), (2, .ref ma), (3, .ref oa), (4, .int (nI (6 * i)))] []) : ch_W X E 7 S μ kc ks 418 [(0, .ref b), (1, .ref xa), (2, .ref ma), (3, .ref oa), (4, .int (nI (6 * i)))] [] := by
  obtain ⟨h, hG, hX, hbl, hbA, hl⟩ := K
  obtain ⟨hs, h34, rfl, rfl, rfl, hI⟩ := hL
  obtain ⟨k, M, dd, mc, ms, hd9, hmc, hms, hH, hR9⟩ := k_c_hysteresis (l := x_l X) hl hs h34 hI (x1 := (xs (Int32.toNatClampNeg (nI (6 * i) + 1)))) (x2 := (xs (Int32.toNatClampNeg (nI (6 * i) + 2))))
  refine ca_aload_nr h dL_law_418 rfl ?_
  refine ca_aload_nr h dL_law_419 rfl ?_
  refine ca_iload h dL_law_420 rfl ?_
  refine ca_iconst h dL_law_422 ik_1 ?_
  refine ca_iadd h dL_law_423 ?_
  refine ca_sld h hX hbl hbA (show vp_in (nI (6 * i) + nI 1) N from lw_in hi (by decide) hN) dL_law_424 ?_
  refine ca_aload_nr h dL_law_425 rfl ?_
  refine ca_iload h dL_law_426 rfl ?_
  refine ca_iconst h dL_law_428 ik_2 ?_
  refine ca_iadd h dL_law_429 ?_
  refine ca_sld h hX hbl hbA (show vp_in (nI (6 * i) + nI 2) N from lw_in hi (by decide) hN) dL_law_430 ?_
  refine ca_aload_nr h dL_law_431 rfl ?_
  refine ca_callSW h hG kw_730 kw_731 kw_0 kw_732 (n := 4) ⟨by decide, by decide, by decide +kernel⟩ hH (st := []) rfl rfl (lw_ble (by omega)) rfl ⟨by omega, by omega⟩ rfl dL_law_432 ?_
  rintro v S' μ' ⟨rfl, hs', g, g2, rfl⟩
  show ch_W X E 7 S' μ' (kc + mc) (ks + ms) 435 [(0, .ref b), (1, .ref (S.1 15 11 0)), (2, .ref (S.1 16 22 0)), (3, .ref (S.1 17 34 0)), (4, .int (nI (6 * i)))] [.int k]
  rw [← g 15 11 0 (by decide), ← g 16 22 0 (by decide), ← g 17 34 0 (by decide)] at kk ⊢
  have h34' := g2 17 34 0 h34
  refine ca_istore h dL_law_435 rfl ?_
  refine ca_aload_nr h dL_law_437 rfl ?_
  refine ca_aload_nr h dL_law_438 rfl ?_
  refine ca_iload h dL_law_439 rfl ?_
  refine ca_iconst h dL_law_441 ik_1 ?_
  refine ca_iadd h dL_law_442 ?_
  refine ca_sld h hX hbl hbA (show vp_in (nI (6 * i) + nI 1) N from lw_in hi (by decide) hN) dL_law_443 ?_
  refine ca_aload_nr h dL_law_444 rfl ?_
  refine ca_iload h dL_law_445 rfl ?_
  refine ca_iconst h dL_law_447 ik_2 ?_
  refine ca_iadd h dL_law_448 ?_
  refine ca_sld h hX hbl hbA (show vp_in (nI (6 * i) + nI 2) N from lw_in hi (by decide) hN) dL_law_449 ?_
  refine ca_callV h hG ml_L_153 (hR9 S' hs') (ci := 12) (st := []) rfl rfl rfl (hs'.1 16 22 0 ⟨rfl, rfl⟩) rfl rfl rfl rfl ⟨by omega, by omega⟩ (Nat.zero_le _) dL_law_450 ?_
  rintro v S2 μ2 ⟨z, rfl, rfl, h6, hI2, hz, hzb⟩
  show ch_W X E 7 S2 μ2 (kc + mc + 0) (ks + ms + 0) 453 [(5, .int k), (0, .ref b), (1, .ref (S2.1 15 11 0)), (2, .ref (S2.1 16 22 0)), (3, .ref (S2.1 17 34 0)), (4, .int (nI (6 * i)))] [.int z]
  have hs' := hs'
  refine ca_istore h dL_law_453 rfl ?_
  refine ca_aload_nr h dL_law_455 rfl ?_
  refine ca_vi h hG ml_L_126 (c_X12_thrown hs') (ci := 12) rfl rfl rfl (hs'.1 16 22 0 ⟨rfl, rfl⟩) rfl rfl rfl rfl ⟨by omega, by omega⟩ rfl dL_law_456 ?_
  rw [h6]
  refine ca_iload h dL_law_459 rfl ?_
  refine ca_icmp_eq (tgt := 466) h dL_law_461 (by decide) (fun _ => ?_) (fun c9 => absurd rfl c9)
  refine ca_iload h dL_law_466 rfl ?_
  refine ca_if_ne (tgt := 483) h dL_law_468 (by decide) (fun ck => ?_) (fun ck => ?_)
  ·
    refine ca_goto (tgt := 2444) h dL_law_483 (by decide) ?_
    refine ca_pick [2, 3, 4, 5, 6] rfl ?_
    refine ca_widen (k := kc + 1) (n := ks + 6) (by omega) (by omega) ?_
    exact kk S2 μ2 ⟨hs', h34', rfl, rfl, rfl, hI2⟩
  refine ca_aload_nr h dL_law_471 rfl ?_
  refine ca_iconst h dL_law_472 ik_0 ?_
  refine ca_lald h (k := 17) (kd := 34) (i := 0) (n := 1) rfl h34' rfl (show vp_in (nI 0) 1 from vp_in_nI (by decide) (by decide)) dL_law_473 ?_
  refine ca_iload h dL_law_474 rfl ?_
  refine ca_i2l h dL_law_476 ?_
  refine ca_lcmp0 h (congrArg Int32.toInt64 (hz ck)) dL_law_477 ?_
  refine ca_if_eq (tgt := 483) h dL_law_478 (by decide) (fun _ => ?_) (fun c9 => absurd rfl c9)
  refine ca_goto (tgt := 2444) h dL_law_483 (by decide) ?_
  refine ca_pick [2, 3, 4, 5, 6] rfl ?_
  refine ca_widen (k := kc + 1) (n := ks + 6) (by omega) (by omega) ?_
  exact kk S2 μ2 ⟨hs', h34', rfl, rfl, rfl, hI2⟩
set_option maxHeartbeats 400000 in
theorem lw_c8 {X : ch_X} {E : ch_E} {b N : Nat} {xs : Nat → Int32} (K : lw_X X E b N xs) {i : Nat} (hi : 6 * i + 6 ≤ N) (hN : N ≤ 3072) {kc ks : Nat} (hkc : kc + 1 ≤ 601024 ∧ ks + 6 ≤ 7293034) {S : ch_S} {μ : ch_M} {xa ma oa : Nat} (hL : lw_S E S μ xa ma oa) (kk : ∀ S' μ', lw_S E S' μ' xa ma oa → ch_W X E 7 S' μ' (kc + 1) (ks + 6) 2444 [(0, .ref b), (1, .ref xa), (2, .ref ma), (3, .ref oa), (4, .int (nI (6 * i)))] []) : ch_W X E 7 S μ kc ks 486 [(0, .ref b), (1, .ref xa), (2, .ref ma), (3, .ref oa), (4, .int (nI (6 * i)))] [] := by
  obtain ⟨h, hG, hX, hbl, hbA, hl⟩ := K
  obtain ⟨hs, h34, rfl, rfl, rfl, hI⟩ := hL
  obtain ⟨k, M, dd, mc, ms, hd9, hmc, hms, hH, hR9⟩ := k_c_level (l := x_l X) hl hs h34 hI (x1 := (xs (Int32.toNatClampNeg (nI (6 * i) + 1)))) (x2 := (xs (Int32.toNatClampNeg (nI (6 * i) + 2)))) (x3 := (xs (Int32.toNatClampNeg (nI (6 * i) + 3))))
  refine ca_aload_nr h dL_law_486 rfl ?_
  refine ca_aload_nr h dL_law_487 rfl ?_
  refine ca_iload h dL_law_488 rfl ?_
  refine ca_iconst h dL_law_490 ik_1 ?_
  refine ca_iadd h dL_law_491 ?_
  refine ca_sld h hX hbl hbA (show vp_in (nI (6 * i) + nI 1) N from lw_in hi (by decide) hN) dL_law_492 ?_
  refine ca_aload_nr h dL_law_493 rfl ?_
  refine ca_iload h dL_law_494 rfl ?_
  refine ca_iconst h dL_law_496 ik_2 ?_
  refine ca_iadd h dL_law_497 ?_
  refine ca_sld h hX hbl hbA (show vp_in (nI (6 * i) + nI 2) N from lw_in hi (by decide) hN) dL_law_498 ?_
  refine ca_aload_nr h dL_law_499 rfl ?_
  refine ca_iload h dL_law_500 rfl ?_
  refine ca_iconst h dL_law_502 ik_3 ?_
  refine ca_iadd h dL_law_503 ?_
  refine ca_sld h hX hbl hbA (show vp_in (nI (6 * i) + nI 3) N from lw_in hi (by decide) hN) dL_law_504 ?_
  refine ca_aload_nr h dL_law_505 rfl ?_
  refine ca_callSW h hG kw_759 kw_760 kw_0 kw_761 (n := 5) ⟨by decide, by decide, by decide +kernel⟩ hH (st := []) rfl rfl (lw_ble (by omega)) rfl ⟨by omega, by omega⟩ rfl dL_law_506 ?_
  rintro v S' μ' ⟨rfl, hs', g, g2, rfl⟩
  show ch_W X E 7 S' μ' (kc + mc) (ks + ms) 509 [(0, .ref b), (1, .ref (S.1 15 11 0)), (2, .ref (S.1 16 22 0)), (3, .ref (S.1 17 34 0)), (4, .int (nI (6 * i)))] [.int k]
  rw [← g 15 11 0 (by decide), ← g 16 22 0 (by decide), ← g 17 34 0 (by decide)] at kk ⊢
  have h34' := g2 17 34 0 h34
  refine ca_istore h dL_law_509 rfl ?_
  refine ca_aload_nr h dL_law_511 rfl ?_
  refine ca_aload_nr h dL_law_512 rfl ?_
  refine ca_iload h dL_law_513 rfl ?_
  refine ca_iconst h dL_law_515 ik_1 ?_
  refine ca_iadd h dL_law_516 ?_
  refine ca_sld h hX hbl hbA (show vp_in (nI (6 * i) + nI 1) N from lw_in hi (by decide) hN) dL_law_517 ?_
  refine ca_aload_nr h dL_law_518 rfl ?_
  refine ca_iload h dL_law_519 rfl ?_
  refine ca_iconst h dL_law_521 ik_2 ?_
  refine ca_iadd h dL_law_522 ?_
  refine ca_sld h hX hbl hbA (show vp_in (nI (6 * i) + nI 2) N from lw_in hi (by decide) hN) dL_law_523 ?_
  refine ca_aload_nr h dL_law_524 rfl ?_
  refine ca_iload h dL_law_525 rfl ?_
  refine ca_iconst h dL_law_527 ik_3 ?_
  refine ca_iadd h dL_law_528 ?_
  refine ca_sld h hX hbl hbA (show vp_in (nI (6 * i) + nI 3) N from lw_in hi (by decide) hN) dL_law_529 ?_
  refine ca_callV h hG ml_L_157 (hR9 S' hs') (ci := 12) (st := []) rfl rfl rfl (hs'.1 16 22 0 ⟨rfl, rfl⟩) rfl rfl rfl rfl ⟨by omega, by omega⟩ (Nat.zero_le _) dL_law_530 ?_
  rintro v S2 μ2 ⟨z, rfl, rfl, h6, hI2, hz, hzb⟩
  show ch_W X E 7 S2 μ2 (kc + mc + 0) (ks + ms + 0) 533 [(5, .int k), (0, .ref b), (1, .ref (S2.1 15 11 0)), (2, .ref (S2.1 16 22 0)), (3, .ref (S2.1 17 34 0)), (4, .int (nI (6 * i)))] [.int z]
  have hs' := hs'
  refine ca_istore h dL_law_533 rfl ?_
  refine ca_aload_nr h dL_law_535 rfl ?_
  refine ca_vi h hG ml_L_126 (c_X12_thrown hs') (ci := 12) rfl rfl rfl (hs'.1 16 22 0 ⟨rfl, rfl⟩) rfl rfl rfl rfl ⟨by omega, by omega⟩ rfl dL_law_536 ?_
  rw [h6]
  refine ca_iload h dL_law_539 rfl ?_
  refine ca_icmp_eq (tgt := 546) h dL_law_541 (by decide) (fun _ => ?_) (fun c9 => absurd rfl c9)
  refine ca_iload h dL_law_546 rfl ?_
  refine ca_if_ne (tgt := 563) h dL_law_548 (by decide) (fun ck => ?_) (fun ck => ?_)
  ·
    refine ca_goto (tgt := 2444) h dL_law_563 (by decide) ?_
    refine ca_pick [2, 3, 4, 5, 6] rfl ?_
    refine ca_widen (k := kc + 1) (n := ks + 6) (by omega) (by omega) ?_
    exact kk S2 μ2 ⟨hs', h34', rfl, rfl, rfl, hI2⟩
  refine ca_aload_nr h dL_law_551 rfl ?_
  refine ca_iconst h dL_law_552 ik_0 ?_
  refine ca_lald h (k := 17) (kd := 34) (i := 0) (n := 1) rfl h34' rfl (show vp_in (nI 0) 1 from vp_in_nI (by decide) (by decide)) dL_law_553 ?_
  refine ca_iload h dL_law_554 rfl ?_
  refine ca_i2l h dL_law_556 ?_
  refine ca_lcmp0 h (congrArg Int32.toInt64 (hz ck)) dL_law_557 ?_
  refine ca_if_eq (tgt := 563) h dL_law_558 (by decide) (fun _ => ?_) (fun c9 => absurd rfl c9)
  refine ca_goto (tgt := 2444) h dL_law_563 (by decide) ?_
  refine ca_pick [2, 3, 4, 5, 6] rfl ?_
  refine ca_widen (k := kc + 1) (n := ks + 6) (by omega) (by omega) ?_
  exact kk S2 μ2 ⟨hs', h34', rfl, rfl, rfl, hI2⟩
set_option maxHeartbeats 400000 in
theorem lw_c9 {X : ch_X} {E : ch_E} {b N : Nat} {xs : Nat → Int32} (K : lw_X X E b N xs) {i : Nat} (hi : 6 * i + 6 ≤ N) (hN : N ≤ 3072) {kc ks : Nat} (hkc : kc + 1 ≤ 601024 ∧ ks + 6 ≤ 7293034) {S : ch_S} {μ : ch_M} {xa ma oa : Nat} (hL : lw_S E S μ xa ma oa) (kk : ∀ S' μ', lw_S E S' μ' xa ma oa → ch_W X E 7 S' μ' (kc + 1) (ks + 6) 2444 [(0, .ref b), (1, .ref xa), (2, .ref ma), (3, .ref oa), (4, .int (nI (6 * i)))] []) : ch_W X E 7 S μ kc ks 566 [(0, .ref b), (1, .ref xa), (2, .ref ma), (3, .ref oa), (4, .int (nI (6 * i)))] [] := by
  obtain ⟨h, hG, hX, hbl, hbA, hl⟩ := K
  obtain ⟨hs, h34, rfl, rfl, rfl, hI⟩ := hL
  obtain ⟨k, M, dd, mc, ms, hd9, hmc, hms, hH, hR9⟩ := k_c_strongestCell (l := x_l X) hl hs h34 hI (x1 := (xs (Int32.toNatClampNeg (nI (6 * i) + 1)))) (x2 := (xs (Int32.toNatClampNeg (nI (6 * i) + 2))))
  refine ca_aload_nr h dL_law_566 rfl ?_
  refine ca_aload_nr h dL_law_567 rfl ?_
  refine ca_iload h dL_law_568 rfl ?_
  refine ca_iconst h dL_law_570 ik_1 ?_
  refine ca_iadd h dL_law_571 ?_
  refine ca_sld h hX hbl hbA (show vp_in (nI (6 * i) + nI 1) N from lw_in hi (by decide) hN) dL_law_572 ?_
  refine ca_aload_nr h dL_law_573 rfl ?_
  refine ca_iload h dL_law_574 rfl ?_
  refine ca_iconst h dL_law_576 ik_2 ?_
  refine ca_iadd h dL_law_577 ?_
  refine ca_sld h hX hbl hbA (show vp_in (nI (6 * i) + nI 2) N from lw_in hi (by decide) hN) dL_law_578 ?_
  refine ca_aload_nr h dL_law_579 rfl ?_
  refine ca_callSW h hG kw_777 kw_778 kw_0 kw_779 (n := 4) ⟨by decide, by decide, by decide +kernel⟩ hH (st := []) rfl rfl (lw_ble (by omega)) rfl ⟨by omega, by omega⟩ rfl dL_law_580 ?_
  rintro v S' μ' ⟨rfl, hs', g, g2, rfl⟩
  show ch_W X E 7 S' μ' (kc + mc) (ks + ms) 583 [(0, .ref b), (1, .ref (S.1 15 11 0)), (2, .ref (S.1 16 22 0)), (3, .ref (S.1 17 34 0)), (4, .int (nI (6 * i)))] [.int k]
  rw [← g 15 11 0 (by decide), ← g 16 22 0 (by decide), ← g 17 34 0 (by decide)] at kk ⊢
  have h34' := g2 17 34 0 h34
  refine ca_istore h dL_law_583 rfl ?_
  refine ca_aload_nr h dL_law_585 rfl ?_
  refine ca_aload_nr h dL_law_586 rfl ?_
  refine ca_iload h dL_law_587 rfl ?_
  refine ca_iconst h dL_law_589 ik_1 ?_
  refine ca_iadd h dL_law_590 ?_
  refine ca_sld h hX hbl hbA (show vp_in (nI (6 * i) + nI 1) N from lw_in hi (by decide) hN) dL_law_591 ?_
  refine ca_aload_nr h dL_law_592 rfl ?_
  refine ca_iload h dL_law_593 rfl ?_
  refine ca_iconst h dL_law_595 ik_2 ?_
  refine ca_iadd h dL_law_596 ?_
  refine ca_sld h hX hbl hbA (show vp_in (nI (6 * i) + nI 2) N from lw_in hi (by decide) hN) dL_law_597 ?_
  refine ca_callV h hG ml_L_160 (hR9 S' hs') (ci := 12) (st := []) rfl rfl rfl (hs'.1 16 22 0 ⟨rfl, rfl⟩) rfl rfl rfl rfl ⟨by omega, by omega⟩ (Nat.zero_le _) dL_law_598 ?_
  rintro v S2 μ2 ⟨z, rfl, rfl, h6, hI2, hz, hzb⟩
  show ch_W X E 7 S2 μ2 (kc + mc + 0) (ks + ms + 0) 601 [(5, .int k), (0, .ref b), (1, .ref (S2.1 15 11 0)), (2, .ref (S2.1 16 22 0)), (3, .ref (S2.1 17 34 0)), (4, .int (nI (6 * i)))] [.int z]
  have hs' := hs'
  refine ca_istore h dL_law_601 rfl ?_
  refine ca_aload_nr h dL_law_603 rfl ?_
  refine ca_vi h hG ml_L_126 (c_X12_thrown hs') (ci := 12) rfl rfl rfl (hs'.1 16 22 0 ⟨rfl, rfl⟩) rfl rfl rfl rfl ⟨by omega, by omega⟩ rfl dL_law_604 ?_
  rw [h6]
  refine ca_iload h dL_law_607 rfl ?_
  refine ca_icmp_eq (tgt := 614) h dL_law_609 (by decide) (fun _ => ?_) (fun c9 => absurd rfl c9)
  refine ca_iload h dL_law_614 rfl ?_
  refine ca_if_ne (tgt := 631) h dL_law_616 (by decide) (fun ck => ?_) (fun ck => ?_)
  ·
    refine ca_goto (tgt := 2444) h dL_law_631 (by decide) ?_
    refine ca_pick [2, 3, 4, 5, 6] rfl ?_
    refine ca_widen (k := kc + 1) (n := ks + 6) (by omega) (by omega) ?_
    exact kk S2 μ2 ⟨hs', h34', rfl, rfl, rfl, hI2⟩
  refine ca_aload_nr h dL_law_619 rfl ?_
  refine ca_iconst h dL_law_620 ik_0 ?_
  refine ca_lald h (k := 17) (kd := 34) (i := 0) (n := 1) rfl h34' rfl (show vp_in (nI 0) 1 from vp_in_nI (by decide) (by decide)) dL_law_621 ?_
  refine ca_iload h dL_law_622 rfl ?_
  refine ca_i2l h dL_law_624 ?_
  refine ca_lcmp0 h (congrArg Int32.toInt64 (hz ck)) dL_law_625 ?_
  refine ca_if_eq (tgt := 631) h dL_law_626 (by decide) (fun _ => ?_) (fun c9 => absurd rfl c9)
  refine ca_goto (tgt := 2444) h dL_law_631 (by decide) ?_
  refine ca_pick [2, 3, 4, 5, 6] rfl ?_
  refine ca_widen (k := kc + 1) (n := ks + 6) (by omega) (by omega) ?_
  exact kk S2 μ2 ⟨hs', h34', rfl, rfl, rfl, hI2⟩
set_option maxHeartbeats 400000 in
theorem lw_c10 {X : ch_X} {E : ch_E} {b N : Nat} {xs : Nat → Int32} (K : lw_X X E b N xs) {i : Nat} (hi : 6 * i + 6 ≤ N) (hN : N ≤ 3072) {kc ks : Nat} (hkc : kc + 1 ≤ 601024 ∧ ks + 6 ≤ 7293034) {S : ch_S} {μ : ch_M} {xa ma oa : Nat} (hL : lw_S E S μ xa ma oa) (kk : ∀ S' μ', lw_S E S' μ' xa ma oa → ch_W X E 7 S' μ' (kc + 1) (ks + 6) 2444 [(0, .ref b), (1, .ref xa), (2, .ref ma), (3, .ref oa), (4, .int (nI (6 * i)))] []) : ch_W X E 7 S μ kc ks 634 [(0, .ref b), (1, .ref xa), (2, .ref ma), (3, .ref oa), (4, .int (nI (6 * i)))] [] := by
  obtain ⟨h, hG, hX, hbl, hbA, hl⟩ := K
  obtain ⟨hs, h34, rfl, rfl, rfl, hI⟩ := hL
  obtain ⟨k, M, dd, mc, ms, hd9, hmc, hms, hH, hR9⟩ := k_c_coverage (l := x_l X) hl hs h34 hI (x1 := (xs (Int32.toNatClampNeg (nI (6 * i) + 1))))
  refine ca_aload_nr h dL_law_634 rfl ?_
  refine ca_aload_nr h dL_law_635 rfl ?_
  refine ca_iload h dL_law_636 rfl ?_
  refine ca_iconst h dL_law_638 ik_1 ?_
  refine ca_iadd h dL_law_639 ?_
  refine ca_sld h hX hbl hbA (show vp_in (nI (6 * i) + nI 1) N from lw_in hi (by decide) hN) dL_law_640 ?_
  refine ca_aload_nr h dL_law_641 rfl ?_
  refine ca_callSW h hG kw_797 kw_798 kw_0 kw_799 (n := 3) ⟨by decide, by decide, by decide +kernel⟩ hH (st := []) rfl rfl (lw_ble (by omega)) rfl ⟨by omega, by omega⟩ rfl dL_law_642 ?_
  rintro v S' μ' ⟨rfl, hs', g, g2, rfl⟩
  show ch_W X E 7 S' μ' (kc + mc) (ks + ms) 645 [(0, .ref b), (1, .ref (S.1 15 11 0)), (2, .ref (S.1 16 22 0)), (3, .ref (S.1 17 34 0)), (4, .int (nI (6 * i)))] [.int k]
  rw [← g 15 11 0 (by decide), ← g 16 22 0 (by decide), ← g 17 34 0 (by decide)] at kk ⊢
  have h34' := g2 17 34 0 h34
  refine ca_istore h dL_law_645 rfl ?_
  refine ca_aload_nr h dL_law_647 rfl ?_
  refine ca_aload_nr h dL_law_648 rfl ?_
  refine ca_iload h dL_law_649 rfl ?_
  refine ca_iconst h dL_law_651 ik_1 ?_
  refine ca_iadd h dL_law_652 ?_
  refine ca_sld h hX hbl hbA (show vp_in (nI (6 * i) + nI 1) N from lw_in hi (by decide) hN) dL_law_653 ?_
  refine ca_callV h hG ml_L_163 (hR9 S' hs') (ci := 12) (st := []) rfl rfl rfl (hs'.1 16 22 0 ⟨rfl, rfl⟩) rfl rfl rfl rfl ⟨by omega, by omega⟩ (Nat.zero_le _) dL_law_654 ?_
  rintro v S2 μ2 ⟨z, rfl, rfl, h6, hI2, hz, hzb⟩
  show ch_W X E 7 S2 μ2 (kc + mc + 0) (ks + ms + 0) 657 [(5, .int k), (0, .ref b), (1, .ref (S2.1 15 11 0)), (2, .ref (S2.1 16 22 0)), (3, .ref (S2.1 17 34 0)), (4, .int (nI (6 * i)))] [.int z]
  have hs' := hs'
  refine ca_istore h dL_law_657 rfl ?_
  refine ca_aload_nr h dL_law_659 rfl ?_
  refine ca_vi h hG ml_L_126 (c_X12_thrown hs') (ci := 12) rfl rfl rfl (hs'.1 16 22 0 ⟨rfl, rfl⟩) rfl rfl rfl rfl ⟨by omega, by omega⟩ rfl dL_law_660 ?_
  rw [h6]
  refine ca_iload h dL_law_663 rfl ?_
  refine ca_icmp_eq (tgt := 670) h dL_law_665 (by decide) (fun _ => ?_) (fun c9 => absurd rfl c9)
  refine ca_iload h dL_law_670 rfl ?_
  refine ca_if_ne (tgt := 687) h dL_law_672 (by decide) (fun ck => ?_) (fun ck => ?_)
  ·
    refine ca_goto (tgt := 2444) h dL_law_687 (by decide) ?_
    refine ca_pick [2, 3, 4, 5, 6] rfl ?_
    refine ca_widen (k := kc + 1) (n := ks + 6) (by omega) (by omega) ?_
    exact kk S2 μ2 ⟨hs', h34', rfl, rfl, rfl, hI2⟩
  refine ca_aload_nr h dL_law_675 rfl ?_
  refine ca_iconst h dL_law_676 ik_0 ?_
  refine ca_lald h (k := 17) (kd := 34) (i := 0) (n := 1) rfl h34' rfl (show vp_in (nI 0) 1 from vp_in_nI (by decide) (by decide)) dL_law_677 ?_
  refine ca_iload h dL_law_678 rfl ?_
  refine ca_i2l h dL_law_680 ?_
  refine ca_lcmp0 h (congrArg Int32.toInt64 (hz ck)) dL_law_681 ?_
  refine ca_if_eq (tgt := 687) h dL_law_682 (by decide) (fun _ => ?_) (fun c9 => absurd rfl c9)
  refine ca_goto (tgt := 2444) h dL_law_687 (by decide) ?_
  refine ca_pick [2, 3, 4, 5, 6] rfl ?_
  refine ca_widen (k := kc + 1) (n := ks + 6) (by omega) (by omega) ?_
  exact kk S2 μ2 ⟨hs', h34', rfl, rfl, rfl, hI2⟩
set_option maxHeartbeats 400000 in
theorem lw_c11 {X : ch_X} {E : ch_E} {b N : Nat} {xs : Nat → Int32} (K : lw_X X E b N xs) {i : Nat} (hi : 6 * i + 6 ≤ N) (hN : N ≤ 3072) {kc ks : Nat} (hkc : kc + 1 ≤ 601024 ∧ ks + 6 ≤ 7293034) {S : ch_S} {μ : ch_M} {xa ma oa : Nat} (hL : lw_S E S μ xa ma oa) (kk : ∀ S' μ', lw_S E S' μ' xa ma oa → ch_W X E 7 S' μ' (kc + 1) (ks + 6) 2444 [(0, .ref b), (1, .ref xa), (2, .ref ma), (3, .ref oa), (4, .int (nI (6 * i)))] []) : ch_W X E 7 S μ kc ks 690 [(0, .ref b), (1, .ref xa), (2, .ref ma), (3, .ref oa), (4, .int (nI (6 * i)))] [] := by
  obtain ⟨h, hG, hX, hbl, hbA, hl⟩ := K
  obtain ⟨hs, h34, rfl, rfl, rfl, hI⟩ := hL
  obtain ⟨k, M, dd, mc, ms, hd9, hmc, hms, hH, hR9⟩ := k_c_missingRelation (l := x_l X) hl hs h34 hI (x1 := (xs (Int32.toNatClampNeg (nI (6 * i) + 1))))
  refine ca_aload_nr h dL_law_690 rfl ?_
  refine ca_aload_nr h dL_law_691 rfl ?_
  refine ca_iload h dL_law_692 rfl ?_
  refine ca_iconst h dL_law_694 ik_1 ?_
  refine ca_iadd h dL_law_695 ?_
  refine ca_sld h hX hbl hbA (show vp_in (nI (6 * i) + nI 1) N from lw_in hi (by decide) hN) dL_law_696 ?_
  refine ca_aload_nr h dL_law_697 rfl ?_
  refine ca_callSW h hG kw_809 kw_810 kw_0 kw_811 (n := 3) ⟨by decide, by decide, by decide +kernel⟩ hH (st := []) rfl rfl (lw_ble (by omega)) rfl ⟨by omega, by omega⟩ rfl dL_law_698 ?_
  rintro v S' μ' ⟨rfl, hs', g, g2, rfl⟩
  show ch_W X E 7 S' μ' (kc + mc) (ks + ms) 701 [(0, .ref b), (1, .ref (S.1 15 11 0)), (2, .ref (S.1 16 22 0)), (3, .ref (S.1 17 34 0)), (4, .int (nI (6 * i)))] [.int k]
  rw [← g 15 11 0 (by decide), ← g 16 22 0 (by decide), ← g 17 34 0 (by decide)] at kk ⊢
  have h34' := g2 17 34 0 h34
  refine ca_istore h dL_law_701 rfl ?_
  refine ca_aload_nr h dL_law_703 rfl ?_
  refine ca_aload_nr h dL_law_704 rfl ?_
  refine ca_iload h dL_law_705 rfl ?_
  refine ca_iconst h dL_law_707 ik_1 ?_
  refine ca_iadd h dL_law_708 ?_
  refine ca_sld h hX hbl hbA (show vp_in (nI (6 * i) + nI 1) N from lw_in hi (by decide) hN) dL_law_709 ?_
  refine ca_callV h hG ml_L_166 (hR9 S' hs') (ci := 12) (st := []) rfl rfl rfl (hs'.1 16 22 0 ⟨rfl, rfl⟩) rfl rfl rfl rfl ⟨by omega, by omega⟩ (Nat.zero_le _) dL_law_710 ?_
  rintro v S2 μ2 ⟨z, rfl, rfl, h6, hI2, hz, hzb⟩
  show ch_W X E 7 S2 μ2 (kc + mc + 0) (ks + ms + 0) 713 [(5, .int k), (0, .ref b), (1, .ref (S2.1 15 11 0)), (2, .ref (S2.1 16 22 0)), (3, .ref (S2.1 17 34 0)), (4, .int (nI (6 * i)))] [.int z]
  have hs' := hs'
  refine ca_istore h dL_law_713 rfl ?_
  refine ca_aload_nr h dL_law_715 rfl ?_
  refine ca_vi h hG ml_L_126 (c_X12_thrown hs') (ci := 12) rfl rfl rfl (hs'.1 16 22 0 ⟨rfl, rfl⟩) rfl rfl rfl rfl ⟨by omega, by omega⟩ rfl dL_law_716 ?_
  rw [h6]
  refine ca_iload h dL_law_719 rfl ?_
  refine ca_icmp_eq (tgt := 726) h dL_law_721 (by decide) (fun _ => ?_) (fun c9 => absurd rfl c9)
  refine ca_iload h dL_law_726 rfl ?_
  refine ca_if_ne (tgt := 743) h dL_law_728 (by decide) (fun ck => ?_) (fun ck => ?_)
  ·
    refine ca_goto (tgt := 2444) h dL_law_743 (by decide) ?_
    refine ca_pick [2, 3, 4, 5, 6] rfl ?_
    refine ca_widen (k := kc + 1) (n := ks + 6) (by omega) (by omega) ?_
    exact kk S2 μ2 ⟨hs', h34', rfl, rfl, rfl, hI2⟩
  refine ca_aload_nr h dL_law_731 rfl ?_
  refine ca_iconst h dL_law_732 ik_0 ?_
  refine ca_lald h (k := 17) (kd := 34) (i := 0) (n := 1) rfl h34' rfl (show vp_in (nI 0) 1 from vp_in_nI (by decide) (by decide)) dL_law_733 ?_
  refine ca_iload h dL_law_734 rfl ?_
  refine ca_i2l h dL_law_736 ?_
  refine ca_lcmp0 h (congrArg Int32.toInt64 (hz ck)) dL_law_737 ?_
  refine ca_if_eq (tgt := 743) h dL_law_738 (by decide) (fun _ => ?_) (fun c9 => absurd rfl c9)
  refine ca_goto (tgt := 2444) h dL_law_743 (by decide) ?_
  refine ca_pick [2, 3, 4, 5, 6] rfl ?_
  refine ca_widen (k := kc + 1) (n := ks + 6) (by omega) (by omega) ?_
  exact kk S2 μ2 ⟨hs', h34', rfl, rfl, rfl, hI2⟩
set_option maxHeartbeats 400000 in
theorem lw_c12 {X : ch_X} {E : ch_E} {b N : Nat} {xs : Nat → Int32} (K : lw_X X E b N xs) {i : Nat} (hi : 6 * i + 6 ≤ N) (hN : N ≤ 3072) {kc ks : Nat} (hkc : kc + 1 ≤ 601024 ∧ ks + 6 ≤ 7293034) {S : ch_S} {μ : ch_M} {xa ma oa : Nat} (hL : lw_S E S μ xa ma oa) (kk : ∀ S' μ', lw_S E S' μ' xa ma oa → ch_W X E 7 S' μ' (kc + 1) (ks + 6) 2444 [(0, .ref b), (1, .ref xa), (2, .ref ma), (3, .ref oa), (4, .int (nI (6 * i)))] []) : ch_W X E 7 S μ kc ks 746 [(0, .ref b), (1, .ref xa), (2, .ref ma), (3, .ref oa), (4, .int (nI (6 * i)))] [] := by
  obtain ⟨h, hG, hX, hbl, hbA, hl⟩ := K
  obtain ⟨hs, h34, rfl, rfl, rfl, hI⟩ := hL
  obtain ⟨k, M, dd, mc, ms, hd9, hmc, hms, hH, hR9⟩ := k_c_addMobile (l := x_l X) hl hs h34 hI (x1 := (xs (Int32.toNatClampNeg (nI (6 * i) + 1)))) (x2 := (xs (Int32.toNatClampNeg (nI (6 * i) + 2)))) (x3 := (xs (Int32.toNatClampNeg (nI (6 * i) + 3)))) (x4 := (xs (Int32.toNatClampNeg (nI (6 * i) + 4))))
  refine ca_aload_nr h dL_law_746 rfl ?_
  refine ca_aload_nr h dL_law_747 rfl ?_
  refine ca_iload h dL_law_748 rfl ?_
  refine ca_iconst h dL_law_750 ik_1 ?_
  refine ca_iadd h dL_law_751 ?_
  refine ca_sld h hX hbl hbA (show vp_in (nI (6 * i) + nI 1) N from lw_in hi (by decide) hN) dL_law_752 ?_
  refine ca_aload_nr h dL_law_753 rfl ?_
  refine ca_iload h dL_law_754 rfl ?_
  refine ca_iconst h dL_law_756 ik_2 ?_
  refine ca_iadd h dL_law_757 ?_
  refine ca_sld h hX hbl hbA (show vp_in (nI (6 * i) + nI 2) N from lw_in hi (by decide) hN) dL_law_758 ?_
  refine ca_aload_nr h dL_law_759 rfl ?_
  refine ca_iload h dL_law_760 rfl ?_
  refine ca_iconst h dL_law_762 ik_3 ?_
  refine ca_iadd h dL_law_763 ?_
  refine ca_sld h hX hbl hbA (show vp_in (nI (6 * i) + nI 3) N from lw_in hi (by decide) hN) dL_law_764 ?_
  refine ca_aload_nr h dL_law_765 rfl ?_
  refine ca_iload h dL_law_766 rfl ?_
  refine ca_iconst h dL_law_768 ik_4 ?_
  refine ca_iadd h dL_law_769 ?_
  refine ca_sld h hX hbl hbA (show vp_in (nI (6 * i) + nI 4) N from lw_in hi (by decide) hN) dL_law_770 ?_
  refine ca_aload_nr h dL_law_771 rfl ?_
  refine ca_callSW h hG kw_829 kw_830 kw_0 kw_831 (n := 6) ⟨by decide, by decide, by decide +kernel⟩ hH (st := []) rfl rfl (lw_ble (by omega)) rfl ⟨by omega, by omega⟩ rfl dL_law_772 ?_
  rintro v S' μ' ⟨rfl, hs', g, g2, rfl⟩
  show ch_W X E 7 S' μ' (kc + mc) (ks + ms) 775 [(0, .ref b), (1, .ref (S.1 15 11 0)), (2, .ref (S.1 16 22 0)), (3, .ref (S.1 17 34 0)), (4, .int (nI (6 * i)))] [.int k]
  rw [← g 15 11 0 (by decide), ← g 16 22 0 (by decide), ← g 17 34 0 (by decide)] at kk ⊢
  have h34' := g2 17 34 0 h34
  refine ca_istore h dL_law_775 rfl ?_
  refine ca_aload_nr h dL_law_777 rfl ?_
  refine ca_aload_nr h dL_law_778 rfl ?_
  refine ca_iload h dL_law_779 rfl ?_
  refine ca_iconst h dL_law_781 ik_1 ?_
  refine ca_iadd h dL_law_782 ?_
  refine ca_sld h hX hbl hbA (show vp_in (nI (6 * i) + nI 1) N from lw_in hi (by decide) hN) dL_law_783 ?_
  refine ca_aload_nr h dL_law_784 rfl ?_
  refine ca_iload h dL_law_785 rfl ?_
  refine ca_iconst h dL_law_787 ik_2 ?_
  refine ca_iadd h dL_law_788 ?_
  refine ca_sld h hX hbl hbA (show vp_in (nI (6 * i) + nI 2) N from lw_in hi (by decide) hN) dL_law_789 ?_
  refine ca_aload_nr h dL_law_790 rfl ?_
  refine ca_iload h dL_law_791 rfl ?_
  refine ca_iconst h dL_law_793 ik_3 ?_
  refine ca_iadd h dL_law_794 ?_
  refine ca_sld h hX hbl hbA (show vp_in (nI (6 * i) + nI 3) N from lw_in hi (by decide) hN) dL_law_795 ?_
  refine ca_aload_nr h dL_law_796 rfl ?_
  refine ca_iload h dL_law_797 rfl ?_
  refine ca_iconst h dL_law_799 ik_4 ?_
  refine ca_iadd h dL_law_800 ?_
  refine ca_sld h hX hbl hbA (show vp_in (nI (6 * i) + nI 4) N from lw_in hi (by decide) hN) dL_law_801 ?_
  refine ca_callV h hG ml_L_170 (hR9 S' hs') (ci := 12) (st := []) rfl rfl rfl (hs'.1 16 22 0 ⟨rfl, rfl⟩) rfl rfl rfl rfl ⟨by omega, by omega⟩ (Nat.zero_le _) dL_law_802 ?_
  rintro v S2 μ2 ⟨z, rfl, rfl, h6, hI2, hz, hzb⟩
  show ch_W X E 7 S2 μ2 (kc + mc + 0) (ks + ms + 0) 805 [(5, .int k), (0, .ref b), (1, .ref (S2.1 15 11 0)), (2, .ref (S2.1 16 22 0)), (3, .ref (S2.1 17 34 0)), (4, .int (nI (6 * i)))] [.int z]
  have hs' := hs'
  refine ca_istore h dL_law_805 rfl ?_
  refine ca_aload_nr h dL_law_807 rfl ?_
  refine ca_vi h hG ml_L_126 (c_X12_thrown hs') (ci := 12) rfl rfl rfl (hs'.1 16 22 0 ⟨rfl, rfl⟩) rfl rfl rfl rfl ⟨by omega, by omega⟩ rfl dL_law_808 ?_
  rw [h6]
  refine ca_iload h dL_law_811 rfl ?_
  refine ca_icmp_eq (tgt := 818) h dL_law_813 (by decide) (fun _ => ?_) (fun c9 => absurd rfl c9)
  refine ca_iload h dL_law_818 rfl ?_
  refine ca_if_ne (tgt := 835) h dL_law_820 (by decide) (fun ck => ?_) (fun ck => ?_)
  ·
    refine ca_goto (tgt := 2444) h dL_law_835 (by decide) ?_
    refine ca_pick [2, 3, 4, 5, 6] rfl ?_
    refine ca_widen (k := kc + 1) (n := ks + 6) (by omega) (by omega) ?_
    exact kk S2 μ2 ⟨hs', h34', rfl, rfl, rfl, hI2⟩
  refine ca_aload_nr h dL_law_823 rfl ?_
  refine ca_iconst h dL_law_824 ik_0 ?_
  refine ca_lald h (k := 17) (kd := 34) (i := 0) (n := 1) rfl h34' rfl (show vp_in (nI 0) 1 from vp_in_nI (by decide) (by decide)) dL_law_825 ?_
  refine ca_iload h dL_law_826 rfl ?_
  refine ca_i2l h dL_law_828 ?_
  refine ca_lcmp0 h (congrArg Int32.toInt64 (hz ck)) dL_law_829 ?_
  refine ca_if_eq (tgt := 835) h dL_law_830 (by decide) (fun _ => ?_) (fun c9 => absurd rfl c9)
  refine ca_goto (tgt := 2444) h dL_law_835 (by decide) ?_
  refine ca_pick [2, 3, 4, 5, 6] rfl ?_
  refine ca_widen (k := kc + 1) (n := ks + 6) (by omega) (by omega) ?_
  exact kk S2 μ2 ⟨hs', h34', rfl, rfl, rfl, hI2⟩
set_option maxHeartbeats 400000 in
theorem lw_c13 {X : ch_X} {E : ch_E} {b N : Nat} {xs : Nat → Int32} (K : lw_X X E b N xs) {i : Nat} (hi : 6 * i + 6 ≤ N) (hN : N ≤ 3072) {kc ks : Nat} (hkc : kc + 1 ≤ 601024 ∧ ks + 6 ≤ 7293034) {S : ch_S} {μ : ch_M} {xa ma oa : Nat} (hL : lw_S E S μ xa ma oa) (kk : ∀ S' μ', lw_S E S' μ' xa ma oa → ch_W X E 7 S' μ' (kc + 1) (ks + 6) 2444 [(0, .ref b), (1, .ref xa), (2, .ref ma), (3, .ref oa), (4, .int (nI (6 * i)))] []) : ch_W X E 7 S μ kc ks 838 [(0, .ref b), (1, .ref xa), (2, .ref ma), (3, .ref oa), (4, .int (nI (6 * i)))] [] := by
  obtain ⟨h, hG, hX, hbl, hbA, hl⟩ := K
  obtain ⟨hs, h34, rfl, rfl, rfl, hI⟩ := hL
  obtain ⟨k, M, dd, mc, ms, hd9, hmc, hms, hH, hR9⟩ := k_c_setVelocity (l := x_l X) hl hs h34 hI (x1 := (xs (Int32.toNatClampNeg (nI (6 * i) + 1)))) (x2 := (xs (Int32.toNatClampNeg (nI (6 * i) + 2)))) (x3 := (xs (Int32.toNatClampNeg (nI (6 * i) + 3))))
  refine ca_aload_nr h dL_law_838 rfl ?_
  refine ca_aload_nr h dL_law_839 rfl ?_
  refine ca_iload h dL_law_840 rfl ?_
  refine ca_iconst h dL_law_842 ik_1 ?_
  refine ca_iadd h dL_law_843 ?_
  refine ca_sld h hX hbl hbA (show vp_in (nI (6 * i) + nI 1) N from lw_in hi (by decide) hN) dL_law_844 ?_
  refine ca_aload_nr h dL_law_845 rfl ?_
  refine ca_iload h dL_law_846 rfl ?_
  refine ca_iconst h dL_law_848 ik_2 ?_
  refine ca_iadd h dL_law_849 ?_
  refine ca_sld h hX hbl hbA (show vp_in (nI (6 * i) + nI 2) N from lw_in hi (by decide) hN) dL_law_850 ?_
  refine ca_aload_nr h dL_law_851 rfl ?_
  refine ca_iload h dL_law_852 rfl ?_
  refine ca_iconst h dL_law_854 ik_3 ?_
  refine ca_iadd h dL_law_855 ?_
  refine ca_sld h hX hbl hbA (show vp_in (nI (6 * i) + nI 3) N from lw_in hi (by decide) hN) dL_law_856 ?_
  refine ca_aload_nr h dL_law_857 rfl ?_
  refine ca_callSW h hG kw_855 kw_856 kw_0 kw_857 (n := 5) ⟨by decide, by decide, by decide +kernel⟩ hH (st := []) rfl rfl (lw_ble (by omega)) rfl ⟨by omega, by omega⟩ rfl dL_law_858 ?_
  rintro v S' μ' ⟨rfl, hs', g, g2, rfl⟩
  show ch_W X E 7 S' μ' (kc + mc) (ks + ms) 861 [(0, .ref b), (1, .ref (S.1 15 11 0)), (2, .ref (S.1 16 22 0)), (3, .ref (S.1 17 34 0)), (4, .int (nI (6 * i)))] [.int k]
  rw [← g 15 11 0 (by decide), ← g 16 22 0 (by decide), ← g 17 34 0 (by decide)] at kk ⊢
  have h34' := g2 17 34 0 h34
  refine ca_istore h dL_law_861 rfl ?_
  refine ca_aload_nr h dL_law_863 rfl ?_
  refine ca_aload_nr h dL_law_864 rfl ?_
  refine ca_iload h dL_law_865 rfl ?_
  refine ca_iconst h dL_law_867 ik_1 ?_
  refine ca_iadd h dL_law_868 ?_
  refine ca_sld h hX hbl hbA (show vp_in (nI (6 * i) + nI 1) N from lw_in hi (by decide) hN) dL_law_869 ?_
  refine ca_aload_nr h dL_law_870 rfl ?_
  refine ca_iload h dL_law_871 rfl ?_
  refine ca_iconst h dL_law_873 ik_2 ?_
  refine ca_iadd h dL_law_874 ?_
  refine ca_sld h hX hbl hbA (show vp_in (nI (6 * i) + nI 2) N from lw_in hi (by decide) hN) dL_law_875 ?_
  refine ca_aload_nr h dL_law_876 rfl ?_
  refine ca_iload h dL_law_877 rfl ?_
  refine ca_iconst h dL_law_879 ik_3 ?_
  refine ca_iadd h dL_law_880 ?_
  refine ca_sld h hX hbl hbA (show vp_in (nI (6 * i) + nI 3) N from lw_in hi (by decide) hN) dL_law_881 ?_
  refine ca_callV h hG ml_L_173 (hR9 S' hs') (ci := 12) (st := []) rfl rfl rfl (hs'.1 16 22 0 ⟨rfl, rfl⟩) rfl rfl rfl rfl ⟨by omega, by omega⟩ (Nat.zero_le _) dL_law_882 ?_
  rintro v S2 μ2 ⟨z, rfl, rfl, h6, hI2, hz, hzb⟩
  show ch_W X E 7 S2 μ2 (kc + mc + 0) (ks + ms + 0) 885 [(5, .int k), (0, .ref b), (1, .ref (S2.1 15 11 0)), (2, .ref (S2.1 16 22 0)), (3, .ref (S2.1 17 34 0)), (4, .int (nI (6 * i)))] [.int z]
  have hs' := hs'
  refine ca_istore h dL_law_885 rfl ?_
  refine ca_aload_nr h dL_law_887 rfl ?_
  refine ca_vi h hG ml_L_126 (c_X12_thrown hs') (ci := 12) rfl rfl rfl (hs'.1 16 22 0 ⟨rfl, rfl⟩) rfl rfl rfl rfl ⟨by omega, by omega⟩ rfl dL_law_888 ?_
  rw [h6]
  refine ca_iload h dL_law_891 rfl ?_
  refine ca_icmp_eq (tgt := 898) h dL_law_893 (by decide) (fun _ => ?_) (fun c9 => absurd rfl c9)
  refine ca_iload h dL_law_898 rfl ?_
  refine ca_if_ne (tgt := 915) h dL_law_900 (by decide) (fun ck => ?_) (fun ck => ?_)
  ·
    refine ca_goto (tgt := 2444) h dL_law_915 (by decide) ?_
    refine ca_pick [2, 3, 4, 5, 6] rfl ?_
    refine ca_widen (k := kc + 1) (n := ks + 6) (by omega) (by omega) ?_
    exact kk S2 μ2 ⟨hs', h34', rfl, rfl, rfl, hI2⟩
  refine ca_aload_nr h dL_law_903 rfl ?_
  refine ca_iconst h dL_law_904 ik_0 ?_
  refine ca_lald h (k := 17) (kd := 34) (i := 0) (n := 1) rfl h34' rfl (show vp_in (nI 0) 1 from vp_in_nI (by decide) (by decide)) dL_law_905 ?_
  refine ca_iload h dL_law_906 rfl ?_
  refine ca_i2l h dL_law_908 ?_
  refine ca_lcmp0 h (congrArg Int32.toInt64 (hz ck)) dL_law_909 ?_
  refine ca_if_eq (tgt := 915) h dL_law_910 (by decide) (fun _ => ?_) (fun c9 => absurd rfl c9)
  refine ca_goto (tgt := 2444) h dL_law_915 (by decide) ?_
  refine ca_pick [2, 3, 4, 5, 6] rfl ?_
  refine ca_widen (k := kc + 1) (n := ks + 6) (by omega) (by omega) ?_
  exact kk S2 μ2 ⟨hs', h34', rfl, rfl, rfl, hI2⟩
set_option maxHeartbeats 400000 in
theorem lw_c14 {X : ch_X} {E : ch_E} {b N : Nat} {xs : Nat → Int32} (K : lw_X X E b N xs) {i : Nat} (hi : 6 * i + 6 ≤ N) (hN : N ≤ 3072) {kc ks : Nat} (hkc : kc + 1 ≤ 601024 ∧ ks + 6 ≤ 7293034) {S : ch_S} {μ : ch_M} {xa ma oa : Nat} (hL : lw_S E S μ xa ma oa) (kk : ∀ S' μ', lw_S E S' μ' xa ma oa → ch_W X E 7 S' μ' (kc + 1) (ks + 6) 2444 [(0, .ref b), (1, .ref xa), (2, .ref ma), (3, .ref oa), (4, .int (nI (6 * i)))] []) : ch_W X E 7 S μ kc ks 918 [(0, .ref b), (1, .ref xa), (2, .ref ma), (3, .ref oa), (4, .int (nI (6 * i)))] [] := by
  obtain ⟨h, hG, hX, hbl, hbA, hl⟩ := K
  obtain ⟨hs, h34, rfl, rfl, rfl, hI⟩ := hL
  obtain ⟨k, M, dd, mc, ms, hd9, hmc, hms, hH, hR9⟩ := k_c_call (l := x_l X) hl hs h34 hI (x1 := (xs (Int32.toNatClampNeg (nI (6 * i) + 1)))) (x2 := (xs (Int32.toNatClampNeg (nI (6 * i) + 2))))
  refine ca_aload_nr h dL_law_918 rfl ?_
  refine ca_aload_nr h dL_law_919 rfl ?_
  refine ca_iload h dL_law_920 rfl ?_
  refine ca_iconst h dL_law_922 ik_1 ?_
  refine ca_iadd h dL_law_923 ?_
  refine ca_sld h hX hbl hbA (show vp_in (nI (6 * i) + nI 1) N from lw_in hi (by decide) hN) dL_law_924 ?_
  refine ca_aload_nr h dL_law_925 rfl ?_
  refine ca_iload h dL_law_926 rfl ?_
  refine ca_iconst h dL_law_928 ik_2 ?_
  refine ca_iadd h dL_law_929 ?_
  refine ca_sld h hX hbl hbA (show vp_in (nI (6 * i) + nI 2) N from lw_in hi (by decide) hN) dL_law_930 ?_
  refine ca_aload_nr h dL_law_931 rfl ?_
  refine ca_callSW h hG kw_867 kw_868 kw_0 kw_869 (n := 4) ⟨by decide, by decide, by decide +kernel⟩ hH (st := []) rfl rfl (lw_ble (by omega)) rfl ⟨by omega, by omega⟩ rfl dL_law_932 ?_
  rintro v S' μ' ⟨rfl, hs', g, g2, rfl⟩
  show ch_W X E 7 S' μ' (kc + mc) (ks + ms) 935 [(0, .ref b), (1, .ref (S.1 15 11 0)), (2, .ref (S.1 16 22 0)), (3, .ref (S.1 17 34 0)), (4, .int (nI (6 * i)))] [.int k]
  rw [← g 15 11 0 (by decide), ← g 16 22 0 (by decide), ← g 17 34 0 (by decide)] at kk ⊢
  have h34' := g2 17 34 0 h34
  refine ca_istore h dL_law_935 rfl ?_
  refine ca_aload_nr h dL_law_937 rfl ?_
  refine ca_aload_nr h dL_law_938 rfl ?_
  refine ca_iload h dL_law_939 rfl ?_
  refine ca_iconst h dL_law_941 ik_1 ?_
  refine ca_iadd h dL_law_942 ?_
  refine ca_sld h hX hbl hbA (show vp_in (nI (6 * i) + nI 1) N from lw_in hi (by decide) hN) dL_law_943 ?_
  refine ca_aload_nr h dL_law_944 rfl ?_
  refine ca_iload h dL_law_945 rfl ?_
  refine ca_iconst h dL_law_947 ik_2 ?_
  refine ca_iadd h dL_law_948 ?_
  refine ca_sld h hX hbl hbA (show vp_in (nI (6 * i) + nI 2) N from lw_in hi (by decide) hN) dL_law_949 ?_
  refine ca_callV h hG ml_L_176 (hR9 S' hs') (ci := 12) (st := []) rfl rfl rfl (hs'.1 16 22 0 ⟨rfl, rfl⟩) rfl rfl rfl rfl ⟨by omega, by omega⟩ (Nat.zero_le _) dL_law_950 ?_
  rintro v S2 μ2 ⟨z, rfl, rfl, h6, hI2, hz, hzb⟩
  show ch_W X E 7 S2 μ2 (kc + mc + 0) (ks + ms + 0) 953 [(5, .int k), (0, .ref b), (1, .ref (S2.1 15 11 0)), (2, .ref (S2.1 16 22 0)), (3, .ref (S2.1 17 34 0)), (4, .int (nI (6 * i)))] [.int z]
  have hs' := hs'
  refine ca_istore h dL_law_953 rfl ?_
  refine ca_aload_nr h dL_law_955 rfl ?_
  refine ca_vi h hG ml_L_126 (c_X12_thrown hs') (ci := 12) rfl rfl rfl (hs'.1 16 22 0 ⟨rfl, rfl⟩) rfl rfl rfl rfl ⟨by omega, by omega⟩ rfl dL_law_956 ?_
  rw [h6]
  refine ca_iload h dL_law_959 rfl ?_
  refine ca_icmp_eq (tgt := 966) h dL_law_961 (by decide) (fun _ => ?_) (fun c9 => absurd rfl c9)
  refine ca_iload h dL_law_966 rfl ?_
  refine ca_if_ne (tgt := 983) h dL_law_968 (by decide) (fun ck => ?_) (fun ck => ?_)
  ·
    refine ca_goto (tgt := 2444) h dL_law_983 (by decide) ?_
    refine ca_pick [2, 3, 4, 5, 6] rfl ?_
    refine ca_widen (k := kc + 1) (n := ks + 6) (by omega) (by omega) ?_
    exact kk S2 μ2 ⟨hs', h34', rfl, rfl, rfl, hI2⟩
  refine ca_aload_nr h dL_law_971 rfl ?_
  refine ca_iconst h dL_law_972 ik_0 ?_
  refine ca_lald h (k := 17) (kd := 34) (i := 0) (n := 1) rfl h34' rfl (show vp_in (nI 0) 1 from vp_in_nI (by decide) (by decide)) dL_law_973 ?_
  refine ca_iload h dL_law_974 rfl ?_
  refine ca_i2l h dL_law_976 ?_
  refine ca_lcmp0 h (congrArg Int32.toInt64 (hz ck)) dL_law_977 ?_
  refine ca_if_eq (tgt := 983) h dL_law_978 (by decide) (fun _ => ?_) (fun c9 => absurd rfl c9)
  refine ca_goto (tgt := 2444) h dL_law_983 (by decide) ?_
  refine ca_pick [2, 3, 4, 5, 6] rfl ?_
  refine ca_widen (k := kc + 1) (n := ks + 6) (by omega) (by omega) ?_
  exact kk S2 μ2 ⟨hs', h34', rfl, rfl, rfl, hI2⟩
set_option maxHeartbeats 400000 in
theorem lw_c15 {X : ch_X} {E : ch_E} {b N : Nat} {xs : Nat → Int32} (K : lw_X X E b N xs) {i : Nat} (hi : 6 * i + 6 ≤ N) (hN : N ≤ 3072) {kc ks : Nat} (hkc : kc + 1 ≤ 601024 ∧ ks + 6 ≤ 7293034) {S : ch_S} {μ : ch_M} {xa ma oa : Nat} (hL : lw_S E S μ xa ma oa) (kk : ∀ S' μ', lw_S E S' μ' xa ma oa → ch_W X E 7 S' μ' (kc + 1) (ks + 6) 2444 [(0, .ref b), (1, .ref xa), (2, .ref ma), (3, .ref oa), (4, .int (nI (6 * i)))] []) : ch_W X E 7 S μ kc ks 986 [(0, .ref b), (1, .ref xa), (2, .ref ma), (3, .ref oa), (4, .int (nI (6 * i)))] [] := by
  obtain ⟨h, hG, hX, hbl, hbA, hl⟩ := K
  obtain ⟨hs, h34, rfl, rfl, rfl, hI⟩ := hL
  obtain ⟨k, M, dd, mc, ms, hd9, hmc, hms, hH, hR9⟩ := k_c_hangUp (l := x_l X) hl hs h34 hI (x1 := (xs (Int32.toNatClampNeg (nI (6 * i) + 1))))
  refine ca_aload_nr h dL_law_986 rfl ?_
  refine ca_aload_nr h dL_law_987 rfl ?_
  refine ca_iload h dL_law_988 rfl ?_
  refine ca_iconst h dL_law_990 ik_1 ?_
  refine ca_iadd h dL_law_991 ?_
  refine ca_sld h hX hbl hbA (show vp_in (nI (6 * i) + nI 1) N from lw_in hi (by decide) hN) dL_law_992 ?_
  refine ca_aload_nr h dL_law_993 rfl ?_
  refine ca_callSW h hG kw_914 kw_915 kw_0 kw_916 (n := 3) ⟨by decide, by decide, by decide +kernel⟩ hH (st := []) rfl rfl (lw_ble (by omega)) rfl ⟨by omega, by omega⟩ rfl dL_law_994 ?_
  rintro v S' μ' ⟨rfl, hs', g, g2, rfl⟩
  show ch_W X E 7 S' μ' (kc + mc) (ks + ms) 997 [(0, .ref b), (1, .ref (S.1 15 11 0)), (2, .ref (S.1 16 22 0)), (3, .ref (S.1 17 34 0)), (4, .int (nI (6 * i)))] [.int k]
  rw [← g 15 11 0 (by decide), ← g 16 22 0 (by decide), ← g 17 34 0 (by decide)] at kk ⊢
  have h34' := g2 17 34 0 h34
  refine ca_istore h dL_law_997 rfl ?_
  refine ca_aload_nr h dL_law_999 rfl ?_
  refine ca_aload_nr h dL_law_1000 rfl ?_
  refine ca_iload h dL_law_1001 rfl ?_
  refine ca_iconst h dL_law_1003 ik_1 ?_
  refine ca_iadd h dL_law_1004 ?_
  refine ca_sld h hX hbl hbA (show vp_in (nI (6 * i) + nI 1) N from lw_in hi (by decide) hN) dL_law_1005 ?_
  refine ca_callV h hG ml_L_179 (hR9 S' hs') (ci := 12) (st := []) rfl rfl rfl (hs'.1 16 22 0 ⟨rfl, rfl⟩) rfl rfl rfl rfl ⟨by omega, by omega⟩ (Nat.zero_le _) dL_law_1006 ?_
  rintro v S2 μ2 ⟨z, rfl, rfl, h6, hI2, hz, hzb⟩
  show ch_W X E 7 S2 μ2 (kc + mc + 0) (ks + ms + 0) 1009 [(5, .int k), (0, .ref b), (1, .ref (S2.1 15 11 0)), (2, .ref (S2.1 16 22 0)), (3, .ref (S2.1 17 34 0)), (4, .int (nI (6 * i)))] [.int z]
  have hs' := hs'
  refine ca_istore h dL_law_1009 rfl ?_
  refine ca_aload_nr h dL_law_1011 rfl ?_
  refine ca_vi h hG ml_L_126 (c_X12_thrown hs') (ci := 12) rfl rfl rfl (hs'.1 16 22 0 ⟨rfl, rfl⟩) rfl rfl rfl rfl ⟨by omega, by omega⟩ rfl dL_law_1012 ?_
  rw [h6]
  refine ca_iload h dL_law_1015 rfl ?_
  refine ca_icmp_eq (tgt := 1022) h dL_law_1017 (by decide) (fun _ => ?_) (fun c9 => absurd rfl c9)
  refine ca_iload h dL_law_1022 rfl ?_
  refine ca_if_ne (tgt := 1039) h dL_law_1024 (by decide) (fun ck => ?_) (fun ck => ?_)
  ·
    refine ca_goto (tgt := 2444) h dL_law_1039 (by decide) ?_
    refine ca_pick [2, 3, 4, 5, 6] rfl ?_
    refine ca_widen (k := kc + 1) (n := ks + 6) (by omega) (by omega) ?_
    exact kk S2 μ2 ⟨hs', h34', rfl, rfl, rfl, hI2⟩
  refine ca_aload_nr h dL_law_1027 rfl ?_
  refine ca_iconst h dL_law_1028 ik_0 ?_
  refine ca_lald h (k := 17) (kd := 34) (i := 0) (n := 1) rfl h34' rfl (show vp_in (nI 0) 1 from vp_in_nI (by decide) (by decide)) dL_law_1029 ?_
  refine ca_iload h dL_law_1030 rfl ?_
  refine ca_i2l h dL_law_1032 ?_
  refine ca_lcmp0 h (congrArg Int32.toInt64 (hz ck)) dL_law_1033 ?_
  refine ca_if_eq (tgt := 1039) h dL_law_1034 (by decide) (fun _ => ?_) (fun c9 => absurd rfl c9)
  refine ca_goto (tgt := 2444) h dL_law_1039 (by decide) ?_
  refine ca_pick [2, 3, 4, 5, 6] rfl ?_
  refine ca_widen (k := kc + 1) (n := ks + 6) (by omega) (by omega) ?_
  exact kk S2 μ2 ⟨hs', h34', rfl, rfl, rfl, hI2⟩
set_option maxHeartbeats 400000 in
theorem lw_c16 {X : ch_X} {E : ch_E} {b N : Nat} {xs : Nat → Int32} (K : lw_X X E b N xs) {i : Nat} (hi : 6 * i + 6 ≤ N) (hN : N ≤ 3072) {kc ks : Nat} (hkc : kc + 1 ≤ 601024 ∧ ks + 6 ≤ 7293034) {S : ch_S} {μ : ch_M} {xa ma oa : Nat} (hL : lw_S E S μ xa ma oa) (kk : ∀ S' μ', lw_S E S' μ' xa ma oa → ch_W X E 7 S' μ' (kc + 1) (ks + 6) 2444 [(0, .ref b), (1, .ref xa), (2, .ref ma), (3, .ref oa), (4, .int (nI (6 * i)))] []) : ch_W X E 7 S μ kc ks 1042 [(0, .ref b), (1, .ref xa), (2, .ref ma), (3, .ref oa), (4, .int (nI (6 * i)))] [] := by
  obtain ⟨h, hG, hX, hbl, hbA, hl⟩ := K
  obtain ⟨hs, h34, rfl, rfl, rfl, hI⟩ := hL
  obtain ⟨k, M, dd, mc, ms, hd9, hmc, hms, hH, hR9⟩ := k_c_setHysteresis (l := x_l X) hl hs h34 hI (x1 := (xs (Int32.toNatClampNeg (nI (6 * i) + 1)))) (x2 := (xs (Int32.toNatClampNeg (nI (6 * i) + 2)))) (x3 := (xs (Int32.toNatClampNeg (nI (6 * i) + 3))))
  refine ca_aload_nr h dL_law_1042 rfl ?_
  refine ca_aload_nr h dL_law_1043 rfl ?_
  refine ca_iload h dL_law_1044 rfl ?_
  refine ca_iconst h dL_law_1046 ik_1 ?_
  refine ca_iadd h dL_law_1047 ?_
  refine ca_sld h hX hbl hbA (show vp_in (nI (6 * i) + nI 1) N from lw_in hi (by decide) hN) dL_law_1048 ?_
  refine ca_aload_nr h dL_law_1049 rfl ?_
  refine ca_iload h dL_law_1050 rfl ?_
  refine ca_iconst h dL_law_1052 ik_2 ?_
  refine ca_iadd h dL_law_1053 ?_
  refine ca_sld h hX hbl hbA (show vp_in (nI (6 * i) + nI 2) N from lw_in hi (by decide) hN) dL_law_1054 ?_
  refine ca_aload_nr h dL_law_1055 rfl ?_
  refine ca_iload h dL_law_1056 rfl ?_
  refine ca_iconst h dL_law_1058 ik_3 ?_
  refine ca_iadd h dL_law_1059 ?_
  refine ca_sld h hX hbl hbA (show vp_in (nI (6 * i) + nI 3) N from lw_in hi (by decide) hN) dL_law_1060 ?_
  refine ca_aload_nr h dL_law_1061 rfl ?_
  refine ca_callSW h hG kw_922 kw_923 kw_0 kw_924 (n := 5) ⟨by decide, by decide, by decide +kernel⟩ hH (st := []) rfl rfl (lw_ble (by omega)) rfl ⟨by omega, by omega⟩ rfl dL_law_1062 ?_
  rintro v S' μ' ⟨rfl, hs', g, g2, rfl⟩
  show ch_W X E 7 S' μ' (kc + mc) (ks + ms) 1065 [(0, .ref b), (1, .ref (S.1 15 11 0)), (2, .ref (S.1 16 22 0)), (3, .ref (S.1 17 34 0)), (4, .int (nI (6 * i)))] [.int k]
  rw [← g 15 11 0 (by decide), ← g 16 22 0 (by decide), ← g 17 34 0 (by decide)] at kk ⊢
  have h34' := g2 17 34 0 h34
  refine ca_istore h dL_law_1065 rfl ?_
  refine ca_aload_nr h dL_law_1067 rfl ?_
  refine ca_aload_nr h dL_law_1068 rfl ?_
  refine ca_iload h dL_law_1069 rfl ?_
  refine ca_iconst h dL_law_1071 ik_1 ?_
  refine ca_iadd h dL_law_1072 ?_
  refine ca_sld h hX hbl hbA (show vp_in (nI (6 * i) + nI 1) N from lw_in hi (by decide) hN) dL_law_1073 ?_
  refine ca_aload_nr h dL_law_1074 rfl ?_
  refine ca_iload h dL_law_1075 rfl ?_
  refine ca_iconst h dL_law_1077 ik_2 ?_
  refine ca_iadd h dL_law_1078 ?_
  refine ca_sld h hX hbl hbA (show vp_in (nI (6 * i) + nI 2) N from lw_in hi (by decide) hN) dL_law_1079 ?_
  refine ca_aload_nr h dL_law_1080 rfl ?_
  refine ca_iload h dL_law_1081 rfl ?_
  refine ca_iconst h dL_law_1083 ik_3 ?_
  refine ca_iadd h dL_law_1084 ?_
  refine ca_sld h hX hbl hbA (show vp_in (nI (6 * i) + nI 3) N from lw_in hi (by decide) hN) dL_law_1085 ?_
  refine ca_callV h hG ml_L_182 (hR9 S' hs') (ci := 12) (st := []) rfl rfl rfl (hs'.1 16 22 0 ⟨rfl, rfl⟩) rfl rfl rfl rfl ⟨by omega, by omega⟩ (Nat.zero_le _) dL_law_1086 ?_
  rintro v S2 μ2 ⟨z, rfl, rfl, h6, hI2, hz, hzb⟩
  show ch_W X E 7 S2 μ2 (kc + mc + 0) (ks + ms + 0) 1089 [(5, .int k), (0, .ref b), (1, .ref (S2.1 15 11 0)), (2, .ref (S2.1 16 22 0)), (3, .ref (S2.1 17 34 0)), (4, .int (nI (6 * i)))] [.int z]
  have hs' := hs'
  refine ca_istore h dL_law_1089 rfl ?_
  refine ca_aload_nr h dL_law_1091 rfl ?_
  refine ca_vi h hG ml_L_126 (c_X12_thrown hs') (ci := 12) rfl rfl rfl (hs'.1 16 22 0 ⟨rfl, rfl⟩) rfl rfl rfl rfl ⟨by omega, by omega⟩ rfl dL_law_1092 ?_
  rw [h6]
  refine ca_iload h dL_law_1095 rfl ?_
  refine ca_icmp_eq (tgt := 1102) h dL_law_1097 (by decide) (fun _ => ?_) (fun c9 => absurd rfl c9)
  refine ca_iload h dL_law_1102 rfl ?_
  refine ca_if_ne (tgt := 1119) h dL_law_1104 (by decide) (fun ck => ?_) (fun ck => ?_)
  ·
    refine ca_goto (tgt := 2444) h dL_law_1119 (by decide) ?_
    refine ca_pick [2, 3, 4, 5, 6] rfl ?_
    refine ca_widen (k := kc + 1) (n := ks + 6) (by omega) (by omega) ?_
    exact kk S2 μ2 ⟨hs', h34', rfl, rfl, rfl, hI2⟩
  refine ca_aload_nr h dL_law_1107 rfl ?_
  refine ca_iconst h dL_law_1108 ik_0 ?_
  refine ca_lald h (k := 17) (kd := 34) (i := 0) (n := 1) rfl h34' rfl (show vp_in (nI 0) 1 from vp_in_nI (by decide) (by decide)) dL_law_1109 ?_
  refine ca_iload h dL_law_1110 rfl ?_
  refine ca_i2l h dL_law_1112 ?_
  refine ca_lcmp0 h (congrArg Int32.toInt64 (hz ck)) dL_law_1113 ?_
  refine ca_if_eq (tgt := 1119) h dL_law_1114 (by decide) (fun _ => ?_) (fun c9 => absurd rfl c9)
  refine ca_goto (tgt := 2444) h dL_law_1119 (by decide) ?_
  refine ca_pick [2, 3, 4, 5, 6] rfl ?_
  refine ca_widen (k := kc + 1) (n := ks + 6) (by omega) (by omega) ?_
  exact kk S2 μ2 ⟨hs', h34', rfl, rfl, rfl, hI2⟩
set_option maxHeartbeats 400000 in
theorem lw_c17 {X : ch_X} {E : ch_E} {b N : Nat} {xs : Nat → Int32} (K : lw_X X E b N xs) {i : Nat} (hi : 6 * i + 6 ≤ N) (hN : N ≤ 3072) {kc ks : Nat} (hkc : kc + 1 ≤ 601024 ∧ ks + 6 ≤ 7293034) {S : ch_S} {μ : ch_M} {xa ma oa : Nat} (hL : lw_S E S μ xa ma oa) (kk : ∀ S' μ', lw_S E S' μ' xa ma oa → ch_W X E 7 S' μ' (kc + 1) (ks + 6) 2444 [(0, .ref b), (1, .ref xa), (2, .ref ma), (3, .ref oa), (4, .int (nI (6 * i)))] []) : ch_W X E 7 S μ kc ks 1122 [(0, .ref b), (1, .ref xa), (2, .ref ma), (3, .ref oa), (4, .int (nI (6 * i)))] [] := by
  obtain ⟨h, hG, hX, hbl, hbA, hl⟩ := K
  obtain ⟨hs, h34, rfl, rfl, rfl, hI⟩ := hL
  obtain ⟨k, M, dd, mc, ms, hd9, hmc, hms, hH, hR9⟩ := k_c_run (l := x_l X) hl hs h34 hI (x1 := (xs (Int32.toNatClampNeg (nI (6 * i) + 1))))
  refine ca_aload_nr h dL_law_1122 rfl ?_
  refine ca_aload_nr h dL_law_1123 rfl ?_
  refine ca_iload h dL_law_1124 rfl ?_
  refine ca_iconst h dL_law_1126 ik_1 ?_
  refine ca_iadd h dL_law_1127 ?_
  refine ca_sld h hX hbl hbA (show vp_in (nI (6 * i) + nI 1) N from lw_in hi (by decide) hN) dL_law_1128 ?_
  refine ca_aload_nr h dL_law_1129 rfl ?_
  refine ca_callSW h hG kw_929 kw_930 kw_0 kw_931 (n := 3) ⟨by decide, by decide, by decide +kernel⟩ hH (st := []) rfl rfl (lw_ble (by omega)) rfl ⟨by omega, by omega⟩ rfl dL_law_1130 ?_
  rintro v S' μ' ⟨rfl, hs', g, g2, rfl⟩
  show ch_W X E 7 S' μ' (kc + mc) (ks + ms) 1133 [(0, .ref b), (1, .ref (S.1 15 11 0)), (2, .ref (S.1 16 22 0)), (3, .ref (S.1 17 34 0)), (4, .int (nI (6 * i)))] [.int k]
  rw [← g 15 11 0 (by decide), ← g 16 22 0 (by decide), ← g 17 34 0 (by decide)] at kk ⊢
  have h34' := g2 17 34 0 h34
  refine ca_istore h dL_law_1133 rfl ?_
  refine ca_aload_nr h dL_law_1135 rfl ?_
  refine ca_aload_nr h dL_law_1136 rfl ?_
  refine ca_iload h dL_law_1137 rfl ?_
  refine ca_iconst h dL_law_1139 ik_1 ?_
  refine ca_iadd h dL_law_1140 ?_
  refine ca_sld h hX hbl hbA (show vp_in (nI (6 * i) + nI 1) N from lw_in hi (by decide) hN) dL_law_1141 ?_
  refine ca_callV h hG ml_L_185 (hR9 S' hs') (ci := 12) (st := []) rfl rfl rfl (hs'.1 16 22 0 ⟨rfl, rfl⟩) rfl rfl rfl rfl ⟨by omega, by omega⟩ (Nat.zero_le _) dL_law_1142 ?_
  rintro v S2 μ2 ⟨z, rfl, rfl, h6, hI2, hz, hzb⟩
  show ch_W X E 7 S2 μ2 (kc + mc + 0) (ks + ms + 0) 1145 [(5, .int k), (0, .ref b), (1, .ref (S2.1 15 11 0)), (2, .ref (S2.1 16 22 0)), (3, .ref (S2.1 17 34 0)), (4, .int (nI (6 * i)))] [.int z]
  have hs' := hs'
  refine ca_istore h dL_law_1145 rfl ?_
  refine ca_aload_nr h dL_law_1147 rfl ?_
  refine ca_vi h hG ml_L_126 (c_X12_thrown hs') (ci := 12) rfl rfl rfl (hs'.1 16 22 0 ⟨rfl, rfl⟩) rfl rfl rfl rfl ⟨by omega, by omega⟩ rfl dL_law_1148 ?_
  rw [h6]
  refine ca_iload h dL_law_1151 rfl ?_
  refine ca_icmp_eq (tgt := 1158) h dL_law_1153 (by decide) (fun _ => ?_) (fun c9 => absurd rfl c9)
  refine ca_iload h dL_law_1158 rfl ?_
  refine ca_if_ne (tgt := 1175) h dL_law_1160 (by decide) (fun ck => ?_) (fun ck => ?_)
  ·
    refine ca_goto (tgt := 2444) h dL_law_1175 (by decide) ?_
    refine ca_pick [2, 3, 4, 5, 6] rfl ?_
    refine ca_widen (k := kc + 1) (n := ks + 6) (by omega) (by omega) ?_
    exact kk S2 μ2 ⟨hs', h34', rfl, rfl, rfl, hI2⟩
  refine ca_aload_nr h dL_law_1163 rfl ?_
  refine ca_iconst h dL_law_1164 ik_0 ?_
  refine ca_lald h (k := 17) (kd := 34) (i := 0) (n := 1) rfl h34' rfl (show vp_in (nI 0) 1 from vp_in_nI (by decide) (by decide)) dL_law_1165 ?_
  refine ca_iload h dL_law_1166 rfl ?_
  refine ca_i2l h dL_law_1168 ?_
  refine ca_lcmp0 h (congrArg Int32.toInt64 (hz ck)) dL_law_1169 ?_
  refine ca_if_eq (tgt := 1175) h dL_law_1170 (by decide) (fun _ => ?_) (fun c9 => absurd rfl c9)
  refine ca_goto (tgt := 2444) h dL_law_1175 (by decide) ?_
  refine ca_pick [2, 3, 4, 5, 6] rfl ?_
  refine ca_widen (k := kc + 1) (n := ks + 6) (by omega) (by omega) ?_
  exact kk S2 μ2 ⟨hs', h34', rfl, rfl, rfl, hI2⟩
set_option maxHeartbeats 400000 in
theorem lw_c18 {X : ch_X} {E : ch_E} {b N : Nat} {xs : Nat → Int32} (K : lw_X X E b N xs) {i : Nat} (hi : 6 * i + 6 ≤ N) (hN : N ≤ 3072) {kc ks : Nat} (hkc : kc + 1 ≤ 601024 ∧ ks + 6 ≤ 7293034) {S : ch_S} {μ : ch_M} {xa ma oa : Nat} (hL : lw_S E S μ xa ma oa) (kk : ∀ S' μ', lw_S E S' μ' xa ma oa → ch_W X E 7 S' μ' (kc + 1) (ks + 6) 2444 [(0, .ref b), (1, .ref xa), (2, .ref ma), (3, .ref oa), (4, .int (nI (6 * i)))] []) : ch_W X E 7 S μ kc ks 1178 [(0, .ref b), (1, .ref xa), (2, .ref ma), (3, .ref oa), (4, .int (nI (6 * i)))] [] := by
  obtain ⟨h, hG, hX, hbl, hbA, hl⟩ := K
  obtain ⟨hs, h34, rfl, rfl, rfl, hI⟩ := hL
  obtain ⟨k, M, dd, mc, ms, hd9, hmc, hms, hH, hR9⟩ := k_c_x (l := x_l X) hl hs h34 hI (x1 := (xs (Int32.toNatClampNeg (nI (6 * i) + 1))))
  refine ca_aload_nr h dL_law_1178 rfl ?_
  refine ca_aload_nr h dL_law_1179 rfl ?_
  refine ca_iload h dL_law_1180 rfl ?_
  refine ca_iconst h dL_law_1182 ik_1 ?_
  refine ca_iadd h dL_law_1183 ?_
  refine ca_sld h hX hbl hbA (show vp_in (nI (6 * i) + nI 1) N from lw_in hi (by decide) hN) dL_law_1184 ?_
  refine ca_aload_nr h dL_law_1185 rfl ?_
  refine ca_callSW h hG kw_1070 kw_1071 kw_0 kw_1072 (n := 3) ⟨by decide, by decide, by decide +kernel⟩ hH (st := []) rfl rfl (lw_ble (by omega)) rfl ⟨by omega, by omega⟩ rfl dL_law_1186 ?_
  rintro v S' μ' ⟨rfl, hs', g, g2, rfl⟩
  show ch_W X E 7 S' μ' (kc + mc) (ks + ms) 1189 [(0, .ref b), (1, .ref (S.1 15 11 0)), (2, .ref (S.1 16 22 0)), (3, .ref (S.1 17 34 0)), (4, .int (nI (6 * i)))] [.int k]
  rw [← g 15 11 0 (by decide), ← g 16 22 0 (by decide), ← g 17 34 0 (by decide)] at kk ⊢
  have h34' := g2 17 34 0 h34
  refine ca_istore h dL_law_1189 rfl ?_
  refine ca_aload_nr h dL_law_1191 rfl ?_
  refine ca_aload_nr h dL_law_1192 rfl ?_
  refine ca_iload h dL_law_1193 rfl ?_
  refine ca_iconst h dL_law_1195 ik_1 ?_
  refine ca_iadd h dL_law_1196 ?_
  refine ca_sld h hX hbl hbA (show vp_in (nI (6 * i) + nI 1) N from lw_in hi (by decide) hN) dL_law_1197 ?_
  refine ca_callV h hG ml_L_188 (hR9 S' hs') (ci := 12) (st := []) rfl rfl rfl (hs'.1 16 22 0 ⟨rfl, rfl⟩) rfl rfl rfl rfl ⟨by omega, by omega⟩ (Nat.zero_le _) dL_law_1198 ?_
  rintro v S2 μ2 ⟨z, rfl, rfl, h6, hI2, hz, hzb⟩
  show ch_W X E 7 S2 μ2 (kc + mc + 0) (ks + ms + 0) 1201 [(5, .int k), (0, .ref b), (1, .ref (S2.1 15 11 0)), (2, .ref (S2.1 16 22 0)), (3, .ref (S2.1 17 34 0)), (4, .int (nI (6 * i)))] [.int z]
  have hs' := hs'
  refine ca_istore h dL_law_1201 rfl ?_
  refine ca_aload_nr h dL_law_1203 rfl ?_
  refine ca_vi h hG ml_L_126 (c_X12_thrown hs') (ci := 12) rfl rfl rfl (hs'.1 16 22 0 ⟨rfl, rfl⟩) rfl rfl rfl rfl ⟨by omega, by omega⟩ rfl dL_law_1204 ?_
  rw [h6]
  refine ca_iload h dL_law_1207 rfl ?_
  refine ca_icmp_eq (tgt := 1214) h dL_law_1209 (by decide) (fun _ => ?_) (fun c9 => absurd rfl c9)
  refine ca_iload h dL_law_1214 rfl ?_
  refine ca_if_ne (tgt := 1231) h dL_law_1216 (by decide) (fun ck => ?_) (fun ck => ?_)
  ·
    refine ca_goto (tgt := 2444) h dL_law_1231 (by decide) ?_
    refine ca_pick [2, 3, 4, 5, 6] rfl ?_
    refine ca_widen (k := kc + 1) (n := ks + 6) (by omega) (by omega) ?_
    exact kk S2 μ2 ⟨hs', h34', rfl, rfl, rfl, hI2⟩
  refine ca_aload_nr h dL_law_1219 rfl ?_
  refine ca_iconst h dL_law_1220 ik_0 ?_
  refine ca_lald h (k := 17) (kd := 34) (i := 0) (n := 1) rfl h34' rfl (show vp_in (nI 0) 1 from vp_in_nI (by decide) (by decide)) dL_law_1221 ?_
  refine ca_iload h dL_law_1222 rfl ?_
  refine ca_i2l h dL_law_1224 ?_
  refine ca_lcmp0 h (congrArg Int32.toInt64 (hz ck)) dL_law_1225 ?_
  refine ca_if_eq (tgt := 1231) h dL_law_1226 (by decide) (fun _ => ?_) (fun c9 => absurd rfl c9)
  refine ca_goto (tgt := 2444) h dL_law_1231 (by decide) ?_
  refine ca_pick [2, 3, 4, 5, 6] rfl ?_
  refine ca_widen (k := kc + 1) (n := ks + 6) (by omega) (by omega) ?_
  exact kk S2 μ2 ⟨hs', h34', rfl, rfl, rfl, hI2⟩
set_option maxHeartbeats 400000 in
theorem lw_c19 {X : ch_X} {E : ch_E} {b N : Nat} {xs : Nat → Int32} (K : lw_X X E b N xs) {i : Nat} (hi : 6 * i + 6 ≤ N) (hN : N ≤ 3072) {kc ks : Nat} (hkc : kc + 1 ≤ 601024 ∧ ks + 6 ≤ 7293034) {S : ch_S} {μ : ch_M} {xa ma oa : Nat} (hL : lw_S E S μ xa ma oa) (kk : ∀ S' μ', lw_S E S' μ' xa ma oa → ch_W X E 7 S' μ' (kc + 1) (ks + 6) 2444 [(0, .ref b), (1, .ref xa), (2, .ref ma), (3, .ref oa), (4, .int (nI (6 * i)))] []) : ch_W X E 7 S μ kc ks 1234 [(0, .ref b), (1, .ref xa), (2, .ref ma), (3, .ref oa), (4, .int (nI (6 * i)))] [] := by
  obtain ⟨h, hG, hX, hbl, hbA, hl⟩ := K
  obtain ⟨hs, h34, rfl, rfl, rfl, hI⟩ := hL
  obtain ⟨k, M, dd, mc, ms, hd9, hmc, hms, hH, hR9⟩ := k_c_y (l := x_l X) hl hs h34 hI (x1 := (xs (Int32.toNatClampNeg (nI (6 * i) + 1))))
  refine ca_aload_nr h dL_law_1234 rfl ?_
  refine ca_aload_nr h dL_law_1235 rfl ?_
  refine ca_iload h dL_law_1236 rfl ?_
  refine ca_iconst h dL_law_1238 ik_1 ?_
  refine ca_iadd h dL_law_1239 ?_
  refine ca_sld h hX hbl hbA (show vp_in (nI (6 * i) + nI 1) N from lw_in hi (by decide) hN) dL_law_1240 ?_
  refine ca_aload_nr h dL_law_1241 rfl ?_
  refine ca_callSW h hG kw_1077 kw_1078 kw_0 kw_1079 (n := 3) ⟨by decide, by decide, by decide +kernel⟩ hH (st := []) rfl rfl (lw_ble (by omega)) rfl ⟨by omega, by omega⟩ rfl dL_law_1242 ?_
  rintro v S' μ' ⟨rfl, hs', g, g2, rfl⟩
  show ch_W X E 7 S' μ' (kc + mc) (ks + ms) 1245 [(0, .ref b), (1, .ref (S.1 15 11 0)), (2, .ref (S.1 16 22 0)), (3, .ref (S.1 17 34 0)), (4, .int (nI (6 * i)))] [.int k]
  rw [← g 15 11 0 (by decide), ← g 16 22 0 (by decide), ← g 17 34 0 (by decide)] at kk ⊢
  have h34' := g2 17 34 0 h34
  refine ca_istore h dL_law_1245 rfl ?_
  refine ca_aload_nr h dL_law_1247 rfl ?_
  refine ca_aload_nr h dL_law_1248 rfl ?_
  refine ca_iload h dL_law_1249 rfl ?_
  refine ca_iconst h dL_law_1251 ik_1 ?_
  refine ca_iadd h dL_law_1252 ?_
  refine ca_sld h hX hbl hbA (show vp_in (nI (6 * i) + nI 1) N from lw_in hi (by decide) hN) dL_law_1253 ?_
  refine ca_callV h hG ml_L_191 (hR9 S' hs') (ci := 12) (st := []) rfl rfl rfl (hs'.1 16 22 0 ⟨rfl, rfl⟩) rfl rfl rfl rfl ⟨by omega, by omega⟩ (Nat.zero_le _) dL_law_1254 ?_
  rintro v S2 μ2 ⟨z, rfl, rfl, h6, hI2, hz, hzb⟩
  show ch_W X E 7 S2 μ2 (kc + mc + 0) (ks + ms + 0) 1257 [(5, .int k), (0, .ref b), (1, .ref (S2.1 15 11 0)), (2, .ref (S2.1 16 22 0)), (3, .ref (S2.1 17 34 0)), (4, .int (nI (6 * i)))] [.int z]
  have hs' := hs'
  refine ca_istore h dL_law_1257 rfl ?_
  refine ca_aload_nr h dL_law_1259 rfl ?_
  refine ca_vi h hG ml_L_126 (c_X12_thrown hs') (ci := 12) rfl rfl rfl (hs'.1 16 22 0 ⟨rfl, rfl⟩) rfl rfl rfl rfl ⟨by omega, by omega⟩ rfl dL_law_1260 ?_
  rw [h6]
  refine ca_iload h dL_law_1263 rfl ?_
  refine ca_icmp_eq (tgt := 1270) h dL_law_1265 (by decide) (fun _ => ?_) (fun c9 => absurd rfl c9)
  refine ca_iload h dL_law_1270 rfl ?_
  refine ca_if_ne (tgt := 1287) h dL_law_1272 (by decide) (fun ck => ?_) (fun ck => ?_)
  ·
    refine ca_goto (tgt := 2444) h dL_law_1287 (by decide) ?_
    refine ca_pick [2, 3, 4, 5, 6] rfl ?_
    refine ca_widen (k := kc + 1) (n := ks + 6) (by omega) (by omega) ?_
    exact kk S2 μ2 ⟨hs', h34', rfl, rfl, rfl, hI2⟩
  refine ca_aload_nr h dL_law_1275 rfl ?_
  refine ca_iconst h dL_law_1276 ik_0 ?_
  refine ca_lald h (k := 17) (kd := 34) (i := 0) (n := 1) rfl h34' rfl (show vp_in (nI 0) 1 from vp_in_nI (by decide) (by decide)) dL_law_1277 ?_
  refine ca_iload h dL_law_1278 rfl ?_
  refine ca_i2l h dL_law_1280 ?_
  refine ca_lcmp0 h (congrArg Int32.toInt64 (hz ck)) dL_law_1281 ?_
  refine ca_if_eq (tgt := 1287) h dL_law_1282 (by decide) (fun _ => ?_) (fun c9 => absurd rfl c9)
  refine ca_goto (tgt := 2444) h dL_law_1287 (by decide) ?_
  refine ca_pick [2, 3, 4, 5, 6] rfl ?_
  refine ca_widen (k := kc + 1) (n := ks + 6) (by omega) (by omega) ?_
  exact kk S2 μ2 ⟨hs', h34', rfl, rfl, rfl, hI2⟩
set_option maxHeartbeats 400000 in
theorem lw_c20 {X : ch_X} {E : ch_E} {b N : Nat} {xs : Nat → Int32} (K : lw_X X E b N xs) {i : Nat} (hi : 6 * i + 6 ≤ N) (hN : N ≤ 3072) {kc ks : Nat} (hkc : kc + 1 ≤ 601024 ∧ ks + 6 ≤ 7293034) {S : ch_S} {μ : ch_M} {xa ma oa : Nat} (hL : lw_S E S μ xa ma oa) (kk : ∀ S' μ', lw_S E S' μ' xa ma oa → ch_W X E 7 S' μ' (kc + 1) (ks + 6) 2444 [(0, .ref b), (1, .ref xa), (2, .ref ma), (3, .ref oa), (4, .int (nI (6 * i)))] []) : ch_W X E 7 S μ kc ks 1290 [(0, .ref b), (1, .ref xa), (2, .ref ma), (3, .ref oa), (4, .int (nI (6 * i)))] [] := by
  obtain ⟨h, hG, hX, hbl, hbA, hl⟩ := K
  obtain ⟨hs, h34, rfl, rfl, rfl, hI⟩ := hL
  obtain ⟨k, M, dd, mc, ms, hd9, hmc, hms, hH, hR9⟩ := k_c_state (l := x_l X) hl hs h34 hI (x1 := (xs (Int32.toNatClampNeg (nI (6 * i) + 1))))
  refine ca_aload_nr h dL_law_1290 rfl ?_
  refine ca_aload_nr h dL_law_1291 rfl ?_
  refine ca_iload h dL_law_1292 rfl ?_
  refine ca_iconst h dL_law_1294 ik_1 ?_
  refine ca_iadd h dL_law_1295 ?_
  refine ca_sld h hX hbl hbA (show vp_in (nI (6 * i) + nI 1) N from lw_in hi (by decide) hN) dL_law_1296 ?_
  refine ca_aload_nr h dL_law_1297 rfl ?_
  refine ca_callSW h hG kw_1084 kw_1085 kw_0 kw_1086 (n := 3) ⟨by decide, by decide, by decide +kernel⟩ hH (st := []) rfl rfl (lw_ble (by omega)) rfl ⟨by omega, by omega⟩ rfl dL_law_1298 ?_
  rintro v S' μ' ⟨rfl, hs', g, g2, rfl⟩
  show ch_W X E 7 S' μ' (kc + mc) (ks + ms) 1301 [(0, .ref b), (1, .ref (S.1 15 11 0)), (2, .ref (S.1 16 22 0)), (3, .ref (S.1 17 34 0)), (4, .int (nI (6 * i)))] [.int k]
  rw [← g 15 11 0 (by decide), ← g 16 22 0 (by decide), ← g 17 34 0 (by decide)] at kk ⊢
  have h34' := g2 17 34 0 h34
  refine ca_istore h dL_law_1301 rfl ?_
  refine ca_aload_nr h dL_law_1303 rfl ?_
  refine ca_aload_nr h dL_law_1304 rfl ?_
  refine ca_iload h dL_law_1305 rfl ?_
  refine ca_iconst h dL_law_1307 ik_1 ?_
  refine ca_iadd h dL_law_1308 ?_
  refine ca_sld h hX hbl hbA (show vp_in (nI (6 * i) + nI 1) N from lw_in hi (by decide) hN) dL_law_1309 ?_
  refine ca_callV h hG ml_L_194 (hR9 S' hs') (ci := 12) (st := []) rfl rfl rfl (hs'.1 16 22 0 ⟨rfl, rfl⟩) rfl rfl rfl rfl ⟨by omega, by omega⟩ (Nat.zero_le _) dL_law_1310 ?_
  rintro v S2 μ2 ⟨z, rfl, rfl, h6, hI2, hz, hzb⟩
  show ch_W X E 7 S2 μ2 (kc + mc + 0) (ks + ms + 0) 1313 [(5, .int k), (0, .ref b), (1, .ref (S2.1 15 11 0)), (2, .ref (S2.1 16 22 0)), (3, .ref (S2.1 17 34 0)), (4, .int (nI (6 * i)))] [.int z]
  have hs' := hs'
  refine ca_istore h dL_law_1313 rfl ?_
  refine ca_aload_nr h dL_law_1315 rfl ?_
  refine ca_vi h hG ml_L_126 (c_X12_thrown hs') (ci := 12) rfl rfl rfl (hs'.1 16 22 0 ⟨rfl, rfl⟩) rfl rfl rfl rfl ⟨by omega, by omega⟩ rfl dL_law_1316 ?_
  rw [h6]
  refine ca_iload h dL_law_1319 rfl ?_
  refine ca_icmp_eq (tgt := 1326) h dL_law_1321 (by decide) (fun _ => ?_) (fun c9 => absurd rfl c9)
  refine ca_iload h dL_law_1326 rfl ?_
  refine ca_if_ne (tgt := 1343) h dL_law_1328 (by decide) (fun ck => ?_) (fun ck => ?_)
  ·
    refine ca_goto (tgt := 2444) h dL_law_1343 (by decide) ?_
    refine ca_pick [2, 3, 4, 5, 6] rfl ?_
    refine ca_widen (k := kc + 1) (n := ks + 6) (by omega) (by omega) ?_
    exact kk S2 μ2 ⟨hs', h34', rfl, rfl, rfl, hI2⟩
  refine ca_aload_nr h dL_law_1331 rfl ?_
  refine ca_iconst h dL_law_1332 ik_0 ?_
  refine ca_lald h (k := 17) (kd := 34) (i := 0) (n := 1) rfl h34' rfl (show vp_in (nI 0) 1 from vp_in_nI (by decide) (by decide)) dL_law_1333 ?_
  refine ca_iload h dL_law_1334 rfl ?_
  refine ca_i2l h dL_law_1336 ?_
  refine ca_lcmp0 h (congrArg Int32.toInt64 (hz ck)) dL_law_1337 ?_
  refine ca_if_eq (tgt := 1343) h dL_law_1338 (by decide) (fun _ => ?_) (fun c9 => absurd rfl c9)
  refine ca_goto (tgt := 2444) h dL_law_1343 (by decide) ?_
  refine ca_pick [2, 3, 4, 5, 6] rfl ?_
  refine ca_widen (k := kc + 1) (n := ks + 6) (by omega) (by omega) ?_
  exact kk S2 μ2 ⟨hs', h34', rfl, rfl, rfl, hI2⟩
set_option maxHeartbeats 400000 in
theorem lw_c21 {X : ch_X} {E : ch_E} {b N : Nat} {xs : Nat → Int32} (K : lw_X X E b N xs) {i : Nat} (hi : 6 * i + 6 ≤ N) (hN : N ≤ 3072) {kc ks : Nat} (hkc : kc + 1 ≤ 601024 ∧ ks + 6 ≤ 7293034) {S : ch_S} {μ : ch_M} {xa ma oa : Nat} (hL : lw_S E S μ xa ma oa) (kk : ∀ S' μ', lw_S E S' μ' xa ma oa → ch_W X E 7 S' μ' (kc + 1) (ks + 6) 2444 [(0, .ref b), (1, .ref xa), (2, .ref ma), (3, .ref oa), (4, .int (nI (6 * i)))] []) : ch_W X E 7 S μ kc ks 1346 [(0, .ref b), (1, .ref xa), (2, .ref ma), (3, .ref oa), (4, .int (nI (6 * i)))] [] := by
  obtain ⟨h, hG, hX, hbl, hbA, hl⟩ := K
  obtain ⟨hs, h34, rfl, rfl, rfl, hI⟩ := hL
  obtain ⟨k, M, dd, mc, ms, hd9, hmc, hms, hH, hR9⟩ := k_c_servingCell (l := x_l X) hl hs h34 hI (x1 := (xs (Int32.toNatClampNeg (nI (6 * i) + 1))))
  refine ca_aload_nr h dL_law_1346 rfl ?_
  refine ca_aload_nr h dL_law_1347 rfl ?_
  refine ca_iload h dL_law_1348 rfl ?_
  refine ca_iconst h dL_law_1350 ik_1 ?_
  refine ca_iadd h dL_law_1351 ?_
  refine ca_sld h hX hbl hbA (show vp_in (nI (6 * i) + nI 1) N from lw_in hi (by decide) hN) dL_law_1352 ?_
  refine ca_aload_nr h dL_law_1353 rfl ?_
  refine ca_callSW h hG kw_1091 kw_1092 kw_0 kw_1093 (n := 3) ⟨by decide, by decide, by decide +kernel⟩ hH (st := []) rfl rfl (lw_ble (by omega)) rfl ⟨by omega, by omega⟩ rfl dL_law_1354 ?_
  rintro v S' μ' ⟨rfl, hs', g, g2, rfl⟩
  show ch_W X E 7 S' μ' (kc + mc) (ks + ms) 1357 [(0, .ref b), (1, .ref (S.1 15 11 0)), (2, .ref (S.1 16 22 0)), (3, .ref (S.1 17 34 0)), (4, .int (nI (6 * i)))] [.int k]
  rw [← g 15 11 0 (by decide), ← g 16 22 0 (by decide), ← g 17 34 0 (by decide)] at kk ⊢
  have h34' := g2 17 34 0 h34
  refine ca_istore h dL_law_1357 rfl ?_
  refine ca_aload_nr h dL_law_1359 rfl ?_
  refine ca_aload_nr h dL_law_1360 rfl ?_
  refine ca_iload h dL_law_1361 rfl ?_
  refine ca_iconst h dL_law_1363 ik_1 ?_
  refine ca_iadd h dL_law_1364 ?_
  refine ca_sld h hX hbl hbA (show vp_in (nI (6 * i) + nI 1) N from lw_in hi (by decide) hN) dL_law_1365 ?_
  refine ca_callV h hG ml_L_197 (hR9 S' hs') (ci := 12) (st := []) rfl rfl rfl (hs'.1 16 22 0 ⟨rfl, rfl⟩) rfl rfl rfl rfl ⟨by omega, by omega⟩ (Nat.zero_le _) dL_law_1366 ?_
  rintro v S2 μ2 ⟨z, rfl, rfl, h6, hI2, hz, hzb⟩
  show ch_W X E 7 S2 μ2 (kc + mc + 0) (ks + ms + 0) 1369 [(5, .int k), (0, .ref b), (1, .ref (S2.1 15 11 0)), (2, .ref (S2.1 16 22 0)), (3, .ref (S2.1 17 34 0)), (4, .int (nI (6 * i)))] [.int z]
  have hs' := hs'
  refine ca_istore h dL_law_1369 rfl ?_
  refine ca_aload_nr h dL_law_1371 rfl ?_
  refine ca_vi h hG ml_L_126 (c_X12_thrown hs') (ci := 12) rfl rfl rfl (hs'.1 16 22 0 ⟨rfl, rfl⟩) rfl rfl rfl rfl ⟨by omega, by omega⟩ rfl dL_law_1372 ?_
  rw [h6]
  refine ca_iload h dL_law_1375 rfl ?_
  refine ca_icmp_eq (tgt := 1382) h dL_law_1377 (by decide) (fun _ => ?_) (fun c9 => absurd rfl c9)
  refine ca_iload h dL_law_1382 rfl ?_
  refine ca_if_ne (tgt := 1399) h dL_law_1384 (by decide) (fun ck => ?_) (fun ck => ?_)
  ·
    refine ca_goto (tgt := 2444) h dL_law_1399 (by decide) ?_
    refine ca_pick [2, 3, 4, 5, 6] rfl ?_
    refine ca_widen (k := kc + 1) (n := ks + 6) (by omega) (by omega) ?_
    exact kk S2 μ2 ⟨hs', h34', rfl, rfl, rfl, hI2⟩
  refine ca_aload_nr h dL_law_1387 rfl ?_
  refine ca_iconst h dL_law_1388 ik_0 ?_
  refine ca_lald h (k := 17) (kd := 34) (i := 0) (n := 1) rfl h34' rfl (show vp_in (nI 0) 1 from vp_in_nI (by decide) (by decide)) dL_law_1389 ?_
  refine ca_iload h dL_law_1390 rfl ?_
  refine ca_i2l h dL_law_1392 ?_
  refine ca_lcmp0 h (congrArg Int32.toInt64 (hz ck)) dL_law_1393 ?_
  refine ca_if_eq (tgt := 1399) h dL_law_1394 (by decide) (fun _ => ?_) (fun c9 => absurd rfl c9)
  refine ca_goto (tgt := 2444) h dL_law_1399 (by decide) ?_
  refine ca_pick [2, 3, 4, 5, 6] rfl ?_
  refine ca_widen (k := kc + 1) (n := ks + 6) (by omega) (by omega) ?_
  exact kk S2 μ2 ⟨hs', h34', rfl, rfl, rfl, hI2⟩
set_option maxHeartbeats 400000 in
theorem lw_c22 {X : ch_X} {E : ch_E} {b N : Nat} {xs : Nat → Int32} (K : lw_X X E b N xs) {i : Nat} (hi : 6 * i + 6 ≤ N) (hN : N ≤ 3072) {kc ks : Nat} (hkc : kc + 1 ≤ 601024 ∧ ks + 6 ≤ 7293034) {S : ch_S} {μ : ch_M} {xa ma oa : Nat} (hL : lw_S E S μ xa ma oa) (kk : ∀ S' μ', lw_S E S' μ' xa ma oa → ch_W X E 7 S' μ' (kc + 1) (ks + 6) 2444 [(0, .ref b), (1, .ref xa), (2, .ref ma), (3, .ref oa), (4, .int (nI (6 * i)))] []) : ch_W X E 7 S μ kc ks 1402 [(0, .ref b), (1, .ref xa), (2, .ref ma), (3, .ref oa), (4, .int (nI (6 * i)))] [] := by
  obtain ⟨h, hG, hX, hbl, hbA, hl⟩ := K
  obtain ⟨hs, h34, rfl, rfl, rfl, hI⟩ := hL
  obtain ⟨k, M, dd, mc, ms, hd9, hmc, hms, hH, hR9⟩ := k_c_remaining (l := x_l X) hl hs h34 hI (x1 := (xs (Int32.toNatClampNeg (nI (6 * i) + 1))))
  refine ca_aload_nr h dL_law_1402 rfl ?_
  refine ca_aload_nr h dL_law_1403 rfl ?_
  refine ca_iload h dL_law_1404 rfl ?_
  refine ca_iconst h dL_law_1406 ik_1 ?_
  refine ca_iadd h dL_law_1407 ?_
  refine ca_sld h hX hbl hbA (show vp_in (nI (6 * i) + nI 1) N from lw_in hi (by decide) hN) dL_law_1408 ?_
  refine ca_aload_nr h dL_law_1409 rfl ?_
  refine ca_callSW h hG kw_1098 kw_1099 kw_0 kw_1100 (n := 3) ⟨by decide, by decide, by decide +kernel⟩ hH (st := []) rfl rfl (lw_ble (by omega)) rfl ⟨by omega, by omega⟩ rfl dL_law_1410 ?_
  rintro v S' μ' ⟨rfl, hs', g, g2, rfl⟩
  show ch_W X E 7 S' μ' (kc + mc) (ks + ms) 1413 [(0, .ref b), (1, .ref (S.1 15 11 0)), (2, .ref (S.1 16 22 0)), (3, .ref (S.1 17 34 0)), (4, .int (nI (6 * i)))] [.int k]
  rw [← g 15 11 0 (by decide), ← g 16 22 0 (by decide), ← g 17 34 0 (by decide)] at kk ⊢
  have h34' := g2 17 34 0 h34
  refine ca_istore h dL_law_1413 rfl ?_
  refine ca_aload_nr h dL_law_1415 rfl ?_
  refine ca_aload_nr h dL_law_1416 rfl ?_
  refine ca_iload h dL_law_1417 rfl ?_
  refine ca_iconst h dL_law_1419 ik_1 ?_
  refine ca_iadd h dL_law_1420 ?_
  refine ca_sld h hX hbl hbA (show vp_in (nI (6 * i) + nI 1) N from lw_in hi (by decide) hN) dL_law_1421 ?_
  refine ca_callV h hG ml_L_200 (hR9 S' hs') (ci := 12) (st := []) rfl rfl rfl (hs'.1 16 22 0 ⟨rfl, rfl⟩) rfl rfl rfl rfl ⟨by omega, by omega⟩ (Nat.zero_le _) dL_law_1422 ?_
  rintro v S2 μ2 ⟨z, rfl, rfl, h6, hI2, hz, hzb⟩
  show ch_W X E 7 S2 μ2 (kc + mc + 0) (ks + ms + 0) 1425 [(5, .int k), (0, .ref b), (1, .ref (S2.1 15 11 0)), (2, .ref (S2.1 16 22 0)), (3, .ref (S2.1 17 34 0)), (4, .int (nI (6 * i)))] [.int z]
  have hs' := hs'
  refine ca_istore h dL_law_1425 rfl ?_
  refine ca_aload_nr h dL_law_1427 rfl ?_
  refine ca_vi h hG ml_L_126 (c_X12_thrown hs') (ci := 12) rfl rfl rfl (hs'.1 16 22 0 ⟨rfl, rfl⟩) rfl rfl rfl rfl ⟨by omega, by omega⟩ rfl dL_law_1428 ?_
  rw [h6]
  refine ca_iload h dL_law_1431 rfl ?_
  refine ca_icmp_eq (tgt := 1438) h dL_law_1433 (by decide) (fun _ => ?_) (fun c9 => absurd rfl c9)
  refine ca_iload h dL_law_1438 rfl ?_
  refine ca_if_ne (tgt := 1455) h dL_law_1440 (by decide) (fun ck => ?_) (fun ck => ?_)
  ·
    refine ca_goto (tgt := 2444) h dL_law_1455 (by decide) ?_
    refine ca_pick [2, 3, 4, 5, 6] rfl ?_
    refine ca_widen (k := kc + 1) (n := ks + 6) (by omega) (by omega) ?_
    exact kk S2 μ2 ⟨hs', h34', rfl, rfl, rfl, hI2⟩
  refine ca_aload_nr h dL_law_1443 rfl ?_
  refine ca_iconst h dL_law_1444 ik_0 ?_
  refine ca_lald h (k := 17) (kd := 34) (i := 0) (n := 1) rfl h34' rfl (show vp_in (nI 0) 1 from vp_in_nI (by decide) (by decide)) dL_law_1445 ?_
  refine ca_iload h dL_law_1446 rfl ?_
  refine ca_i2l h dL_law_1448 ?_
  refine ca_lcmp0 h (congrArg Int32.toInt64 (hz ck)) dL_law_1449 ?_
  refine ca_if_eq (tgt := 1455) h dL_law_1450 (by decide) (fun _ => ?_) (fun c9 => absurd rfl c9)
  refine ca_goto (tgt := 2444) h dL_law_1455 (by decide) ?_
  refine ca_pick [2, 3, 4, 5, 6] rfl ?_
  refine ca_widen (k := kc + 1) (n := ks + 6) (by omega) (by omega) ?_
  exact kk S2 μ2 ⟨hs', h34', rfl, rfl, rfl, hI2⟩
set_option maxHeartbeats 400000 in
theorem lw_c23 {X : ch_X} {E : ch_E} {b N : Nat} {xs : Nat → Int32} (K : lw_X X E b N xs) {i : Nat} (hi : 6 * i + 6 ≤ N) (hN : N ≤ 3072) {kc ks : Nat} (hkc : kc + 1 ≤ 601024 ∧ ks + 6 ≤ 7293034) {S : ch_S} {μ : ch_M} {xa ma oa : Nat} (hL : lw_S E S μ xa ma oa) (kk : ∀ S' μ', lw_S E S' μ' xa ma oa → ch_W X E 7 S' μ' (kc + 1) (ks + 6) 2444 [(0, .ref b), (1, .ref xa), (2, .ref ma), (3, .ref oa), (4, .int (nI (6 * i)))] []) : ch_W X E 7 S μ kc ks 1458 [(0, .ref b), (1, .ref xa), (2, .ref ma), (3, .ref oa), (4, .int (nI (6 * i)))] [] := by
  obtain ⟨h, hG, hX, hbl, hbA, hl⟩ := K
  obtain ⟨hs, h34, rfl, rfl, rfl, hI⟩ := hL
  obtain ⟨k, M, dd, mc, ms, hd9, hmc, hms, hH, hR9⟩ := k_c_requestCell (l := x_l X) hl hs h34 hI (x1 := (xs (Int32.toNatClampNeg (nI (6 * i) + 1))))
  refine ca_aload_nr h dL_law_1458 rfl ?_
  refine ca_aload_nr h dL_law_1459 rfl ?_
  refine ca_iload h dL_law_1460 rfl ?_
  refine ca_iconst h dL_law_1462 ik_1 ?_
  refine ca_iadd h dL_law_1463 ?_
  refine ca_sld h hX hbl hbA (show vp_in (nI (6 * i) + nI 1) N from lw_in hi (by decide) hN) dL_law_1464 ?_
  refine ca_aload_nr h dL_law_1465 rfl ?_
  refine ca_callSW h hG kw_1105 kw_1106 kw_0 kw_1107 (n := 3) ⟨by decide, by decide, by decide +kernel⟩ hH (st := []) rfl rfl (lw_ble (by omega)) rfl ⟨by omega, by omega⟩ rfl dL_law_1466 ?_
  rintro v S' μ' ⟨rfl, hs', g, g2, rfl⟩
  show ch_W X E 7 S' μ' (kc + mc) (ks + ms) 1469 [(0, .ref b), (1, .ref (S.1 15 11 0)), (2, .ref (S.1 16 22 0)), (3, .ref (S.1 17 34 0)), (4, .int (nI (6 * i)))] [.int k]
  rw [← g 15 11 0 (by decide), ← g 16 22 0 (by decide), ← g 17 34 0 (by decide)] at kk ⊢
  have h34' := g2 17 34 0 h34
  refine ca_istore h dL_law_1469 rfl ?_
  refine ca_aload_nr h dL_law_1471 rfl ?_
  refine ca_aload_nr h dL_law_1472 rfl ?_
  refine ca_iload h dL_law_1473 rfl ?_
  refine ca_iconst h dL_law_1475 ik_1 ?_
  refine ca_iadd h dL_law_1476 ?_
  refine ca_sld h hX hbl hbA (show vp_in (nI (6 * i) + nI 1) N from lw_in hi (by decide) hN) dL_law_1477 ?_
  refine ca_callV h hG ml_L_203 (hR9 S' hs') (ci := 12) (st := []) rfl rfl rfl (hs'.1 16 22 0 ⟨rfl, rfl⟩) rfl rfl rfl rfl ⟨by omega, by omega⟩ (Nat.zero_le _) dL_law_1478 ?_
  rintro v S2 μ2 ⟨z, rfl, rfl, h6, hI2, hz, hzb⟩
  show ch_W X E 7 S2 μ2 (kc + mc + 0) (ks + ms + 0) 1481 [(5, .int k), (0, .ref b), (1, .ref (S2.1 15 11 0)), (2, .ref (S2.1 16 22 0)), (3, .ref (S2.1 17 34 0)), (4, .int (nI (6 * i)))] [.int z]
  have hs' := hs'
  refine ca_istore h dL_law_1481 rfl ?_
  refine ca_aload_nr h dL_law_1483 rfl ?_
  refine ca_vi h hG ml_L_126 (c_X12_thrown hs') (ci := 12) rfl rfl rfl (hs'.1 16 22 0 ⟨rfl, rfl⟩) rfl rfl rfl rfl ⟨by omega, by omega⟩ rfl dL_law_1484 ?_
  rw [h6]
  refine ca_iload h dL_law_1487 rfl ?_
  refine ca_icmp_eq (tgt := 1494) h dL_law_1489 (by decide) (fun _ => ?_) (fun c9 => absurd rfl c9)
  refine ca_iload h dL_law_1494 rfl ?_
  refine ca_if_ne (tgt := 1511) h dL_law_1496 (by decide) (fun ck => ?_) (fun ck => ?_)
  ·
    refine ca_goto (tgt := 2444) h dL_law_1511 (by decide) ?_
    refine ca_pick [2, 3, 4, 5, 6] rfl ?_
    refine ca_widen (k := kc + 1) (n := ks + 6) (by omega) (by omega) ?_
    exact kk S2 μ2 ⟨hs', h34', rfl, rfl, rfl, hI2⟩
  refine ca_aload_nr h dL_law_1499 rfl ?_
  refine ca_iconst h dL_law_1500 ik_0 ?_
  refine ca_lald h (k := 17) (kd := 34) (i := 0) (n := 1) rfl h34' rfl (show vp_in (nI 0) 1 from vp_in_nI (by decide) (by decide)) dL_law_1501 ?_
  refine ca_iload h dL_law_1502 rfl ?_
  refine ca_i2l h dL_law_1504 ?_
  refine ca_lcmp0 h (congrArg Int32.toInt64 (hz ck)) dL_law_1505 ?_
  refine ca_if_eq (tgt := 1511) h dL_law_1506 (by decide) (fun _ => ?_) (fun c9 => absurd rfl c9)
  refine ca_goto (tgt := 2444) h dL_law_1511 (by decide) ?_
  refine ca_pick [2, 3, 4, 5, 6] rfl ?_
  refine ca_widen (k := kc + 1) (n := ks + 6) (by omega) (by omega) ?_
  exact kk S2 μ2 ⟨hs', h34', rfl, rfl, rfl, hI2⟩
set_option maxHeartbeats 400000 in
theorem lw_c24 {X : ch_X} {E : ch_E} {b N : Nat} {xs : Nat → Int32} (K : lw_X X E b N xs) {i : Nat} (hi : 6 * i + 6 ≤ N) (hN : N ≤ 3072) {kc ks : Nat} (hkc : kc + 1 ≤ 601024 ∧ ks + 6 ≤ 7293034) {S : ch_S} {μ : ch_M} {xa ma oa : Nat} (hL : lw_S E S μ xa ma oa) (kk : ∀ S' μ', lw_S E S' μ' xa ma oa → ch_W X E 7 S' μ' (kc + 1) (ks + 6) 2444 [(0, .ref b), (1, .ref xa), (2, .ref ma), (3, .ref oa), (4, .int (nI (6 * i)))] []) : ch_W X E 7 S μ kc ks 1514 [(0, .ref b), (1, .ref xa), (2, .ref ma), (3, .ref oa), (4, .int (nI (6 * i)))] [] := by
  obtain ⟨h, hG, hX, hbl, hbA, hl⟩ := K
  obtain ⟨hs, h34, rfl, rfl, rfl, hI⟩ := hL
  obtain ⟨k, M, dd, mc, ms, hd9, hmc, hms, hH, hR9⟩ := k_c_average (l := x_l X) hl hs h34 hI (x1 := (xs (Int32.toNatClampNeg (nI (6 * i) + 1)))) (x2 := (xs (Int32.toNatClampNeg (nI (6 * i) + 2))))
  refine ca_aload_nr h dL_law_1514 rfl ?_
  refine ca_aload_nr h dL_law_1515 rfl ?_
  refine ca_iload h dL_law_1516 rfl ?_
  refine ca_iconst h dL_law_1518 ik_1 ?_
  refine ca_iadd h dL_law_1519 ?_
  refine ca_sld h hX hbl hbA (show vp_in (nI (6 * i) + nI 1) N from lw_in hi (by decide) hN) dL_law_1520 ?_
  refine ca_aload_nr h dL_law_1521 rfl ?_
  refine ca_iload h dL_law_1522 rfl ?_
  refine ca_iconst h dL_law_1524 ik_2 ?_
  refine ca_iadd h dL_law_1525 ?_
  refine ca_sld h hX hbl hbA (show vp_in (nI (6 * i) + nI 2) N from lw_in hi (by decide) hN) dL_law_1526 ?_
  refine ca_aload_nr h dL_law_1527 rfl ?_
  refine ca_callSW h hG kw_1112 kw_1113 kw_0 kw_1114 (n := 4) ⟨by decide, by decide, by decide +kernel⟩ hH (st := []) rfl rfl (lw_ble (by omega)) rfl ⟨by omega, by omega⟩ rfl dL_law_1528 ?_
  rintro v S' μ' ⟨rfl, hs', g, g2, rfl⟩
  show ch_W X E 7 S' μ' (kc + mc) (ks + ms) 1531 [(0, .ref b), (1, .ref (S.1 15 11 0)), (2, .ref (S.1 16 22 0)), (3, .ref (S.1 17 34 0)), (4, .int (nI (6 * i)))] [.int k]
  rw [← g 15 11 0 (by decide), ← g 16 22 0 (by decide), ← g 17 34 0 (by decide)] at kk ⊢
  have h34' := g2 17 34 0 h34
  refine ca_istore h dL_law_1531 rfl ?_
  refine ca_aload_nr h dL_law_1533 rfl ?_
  refine ca_aload_nr h dL_law_1534 rfl ?_
  refine ca_iload h dL_law_1535 rfl ?_
  refine ca_iconst h dL_law_1537 ik_1 ?_
  refine ca_iadd h dL_law_1538 ?_
  refine ca_sld h hX hbl hbA (show vp_in (nI (6 * i) + nI 1) N from lw_in hi (by decide) hN) dL_law_1539 ?_
  refine ca_aload_nr h dL_law_1540 rfl ?_
  refine ca_iload h dL_law_1541 rfl ?_
  refine ca_iconst h dL_law_1543 ik_2 ?_
  refine ca_iadd h dL_law_1544 ?_
  refine ca_sld h hX hbl hbA (show vp_in (nI (6 * i) + nI 2) N from lw_in hi (by decide) hN) dL_law_1545 ?_
  refine ca_callV h hG ml_L_206 (hR9 S' hs') (ci := 12) (st := []) rfl rfl rfl (hs'.1 16 22 0 ⟨rfl, rfl⟩) rfl rfl rfl rfl ⟨by omega, by omega⟩ (Nat.zero_le _) dL_law_1546 ?_
  rintro v S2 μ2 ⟨z, rfl, rfl, h6, hI2, hz, hzb⟩
  show ch_W X E 7 S2 μ2 (kc + mc + 0) (ks + ms + 0) 1549 [(5, .int k), (0, .ref b), (1, .ref (S2.1 15 11 0)), (2, .ref (S2.1 16 22 0)), (3, .ref (S2.1 17 34 0)), (4, .int (nI (6 * i)))] [.int z]
  have hs' := hs'
  refine ca_istore h dL_law_1549 rfl ?_
  refine ca_aload_nr h dL_law_1551 rfl ?_
  refine ca_vi h hG ml_L_126 (c_X12_thrown hs') (ci := 12) rfl rfl rfl (hs'.1 16 22 0 ⟨rfl, rfl⟩) rfl rfl rfl rfl ⟨by omega, by omega⟩ rfl dL_law_1552 ?_
  rw [h6]
  refine ca_iload h dL_law_1555 rfl ?_
  refine ca_icmp_eq (tgt := 1562) h dL_law_1557 (by decide) (fun _ => ?_) (fun c9 => absurd rfl c9)
  refine ca_iload h dL_law_1562 rfl ?_
  refine ca_if_ne (tgt := 1579) h dL_law_1564 (by decide) (fun ck => ?_) (fun ck => ?_)
  ·
    refine ca_goto (tgt := 2444) h dL_law_1579 (by decide) ?_
    refine ca_pick [2, 3, 4, 5, 6] rfl ?_
    refine ca_widen (k := kc + 1) (n := ks + 6) (by omega) (by omega) ?_
    exact kk S2 μ2 ⟨hs', h34', rfl, rfl, rfl, hI2⟩
  refine ca_aload_nr h dL_law_1567 rfl ?_
  refine ca_iconst h dL_law_1568 ik_0 ?_
  refine ca_lald h (k := 17) (kd := 34) (i := 0) (n := 1) rfl h34' rfl (show vp_in (nI 0) 1 from vp_in_nI (by decide) (by decide)) dL_law_1569 ?_
  refine ca_iload h dL_law_1570 rfl ?_
  refine ca_i2l h dL_law_1572 ?_
  refine ca_lcmp0 h (congrArg Int32.toInt64 (hz ck)) dL_law_1573 ?_
  refine ca_if_eq (tgt := 1579) h dL_law_1574 (by decide) (fun _ => ?_) (fun c9 => absurd rfl c9)
  refine ca_goto (tgt := 2444) h dL_law_1579 (by decide) ?_
  refine ca_pick [2, 3, 4, 5, 6] rfl ?_
  refine ca_widen (k := kc + 1) (n := ks + 6) (by omega) (by omega) ?_
  exact kk S2 μ2 ⟨hs', h34', rfl, rfl, rfl, hI2⟩
set_option maxHeartbeats 400000 in
theorem lw_c25 {X : ch_X} {E : ch_E} {b N : Nat} {xs : Nat → Int32} (K : lw_X X E b N xs) {i : Nat} (hi : 6 * i + 6 ≤ N) (hN : N ≤ 3072) {kc ks : Nat} (hkc : kc + 1 ≤ 601024 ∧ ks + 6 ≤ 7293034) {S : ch_S} {μ : ch_M} {xa ma oa : Nat} (hL : lw_S E S μ xa ma oa) (kk : ∀ S' μ', lw_S E S' μ' xa ma oa → ch_W X E 7 S' μ' (kc + 1) (ks + 6) 2444 [(0, .ref b), (1, .ref xa), (2, .ref ma), (3, .ref oa), (4, .int (nI (6 * i)))] []) : ch_W X E 7 S μ kc ks 1582 [(0, .ref b), (1, .ref xa), (2, .ref ma), (3, .ref oa), (4, .int (nI (6 * i)))] [] := by
  obtain ⟨h, hG, hX, hbl, hbA, hl⟩ := K
  obtain ⟨hs, h34, rfl, rfl, rfl, hI⟩ := hL
  obtain ⟨k, M, dd, mc, ms, hd9, hmc, hms, hH, hR9⟩ := k_c_reportCount (l := x_l X) hl hs h34 hI (x1 := (xs (Int32.toNatClampNeg (nI (6 * i) + 1)))) (x2 := (xs (Int32.toNatClampNeg (nI (6 * i) + 2))))
  refine ca_aload_nr h dL_law_1582 rfl ?_
  refine ca_aload_nr h dL_law_1583 rfl ?_
  refine ca_iload h dL_law_1584 rfl ?_
  refine ca_iconst h dL_law_1586 ik_1 ?_
  refine ca_iadd h dL_law_1587 ?_
  refine ca_sld h hX hbl hbA (show vp_in (nI (6 * i) + nI 1) N from lw_in hi (by decide) hN) dL_law_1588 ?_
  refine ca_aload_nr h dL_law_1589 rfl ?_
  refine ca_iload h dL_law_1590 rfl ?_
  refine ca_iconst h dL_law_1592 ik_2 ?_
  refine ca_iadd h dL_law_1593 ?_
  refine ca_sld h hX hbl hbA (show vp_in (nI (6 * i) + nI 2) N from lw_in hi (by decide) hN) dL_law_1594 ?_
  refine ca_aload_nr h dL_law_1595 rfl ?_
  refine ca_callSW h hG kw_1120 kw_1121 kw_0 kw_1122 (n := 4) ⟨by decide, by decide, by decide +kernel⟩ hH (st := []) rfl rfl (lw_ble (by omega)) rfl ⟨by omega, by omega⟩ rfl dL_law_1596 ?_
  rintro v S' μ' ⟨rfl, hs', g, g2, rfl⟩
  show ch_W X E 7 S' μ' (kc + mc) (ks + ms) 1599 [(0, .ref b), (1, .ref (S.1 15 11 0)), (2, .ref (S.1 16 22 0)), (3, .ref (S.1 17 34 0)), (4, .int (nI (6 * i)))] [.int k]
  rw [← g 15 11 0 (by decide), ← g 16 22 0 (by decide), ← g 17 34 0 (by decide)] at kk ⊢
  have h34' := g2 17 34 0 h34
  refine ca_istore h dL_law_1599 rfl ?_
  refine ca_aload_nr h dL_law_1601 rfl ?_
  refine ca_aload_nr h dL_law_1602 rfl ?_
  refine ca_iload h dL_law_1603 rfl ?_
  refine ca_iconst h dL_law_1605 ik_1 ?_
  refine ca_iadd h dL_law_1606 ?_
  refine ca_sld h hX hbl hbA (show vp_in (nI (6 * i) + nI 1) N from lw_in hi (by decide) hN) dL_law_1607 ?_
  refine ca_aload_nr h dL_law_1608 rfl ?_
  refine ca_iload h dL_law_1609 rfl ?_
  refine ca_iconst h dL_law_1611 ik_2 ?_
  refine ca_iadd h dL_law_1612 ?_
  refine ca_sld h hX hbl hbA (show vp_in (nI (6 * i) + nI 2) N from lw_in hi (by decide) hN) dL_law_1613 ?_
  refine ca_callV h hG ml_L_209 (hR9 S' hs') (ci := 12) (st := []) rfl rfl rfl (hs'.1 16 22 0 ⟨rfl, rfl⟩) rfl rfl rfl rfl ⟨by omega, by omega⟩ (Nat.zero_le _) dL_law_1614 ?_
  rintro v S2 μ2 ⟨z, rfl, rfl, h6, hI2, hz, hzb⟩
  show ch_W X E 7 S2 μ2 (kc + mc + 0) (ks + ms + 0) 1617 [(5, .int k), (0, .ref b), (1, .ref (S2.1 15 11 0)), (2, .ref (S2.1 16 22 0)), (3, .ref (S2.1 17 34 0)), (4, .int (nI (6 * i)))] [.int z]
  have hs' := hs'
  refine ca_istore h dL_law_1617 rfl ?_
  refine ca_aload_nr h dL_law_1619 rfl ?_
  refine ca_vi h hG ml_L_126 (c_X12_thrown hs') (ci := 12) rfl rfl rfl (hs'.1 16 22 0 ⟨rfl, rfl⟩) rfl rfl rfl rfl ⟨by omega, by omega⟩ rfl dL_law_1620 ?_
  rw [h6]
  refine ca_iload h dL_law_1623 rfl ?_
  refine ca_icmp_eq (tgt := 1630) h dL_law_1625 (by decide) (fun _ => ?_) (fun c9 => absurd rfl c9)
  refine ca_iload h dL_law_1630 rfl ?_
  refine ca_if_ne (tgt := 1647) h dL_law_1632 (by decide) (fun ck => ?_) (fun ck => ?_)
  ·
    refine ca_goto (tgt := 2444) h dL_law_1647 (by decide) ?_
    refine ca_pick [2, 3, 4, 5, 6] rfl ?_
    refine ca_widen (k := kc + 1) (n := ks + 6) (by omega) (by omega) ?_
    exact kk S2 μ2 ⟨hs', h34', rfl, rfl, rfl, hI2⟩
  refine ca_aload_nr h dL_law_1635 rfl ?_
  refine ca_iconst h dL_law_1636 ik_0 ?_
  refine ca_lald h (k := 17) (kd := 34) (i := 0) (n := 1) rfl h34' rfl (show vp_in (nI 0) 1 from vp_in_nI (by decide) (by decide)) dL_law_1637 ?_
  refine ca_iload h dL_law_1638 rfl ?_
  refine ca_i2l h dL_law_1640 ?_
  refine ca_lcmp0 h (congrArg Int32.toInt64 (hz ck)) dL_law_1641 ?_
  refine ca_if_eq (tgt := 1647) h dL_law_1642 (by decide) (fun _ => ?_) (fun c9 => absurd rfl c9)
  refine ca_goto (tgt := 2444) h dL_law_1647 (by decide) ?_
  refine ca_pick [2, 3, 4, 5, 6] rfl ?_
  refine ca_widen (k := kc + 1) (n := ks + 6) (by omega) (by omega) ?_
  exact kk S2 μ2 ⟨hs', h34', rfl, rfl, rfl, hI2⟩
set_option maxHeartbeats 400000 in
theorem lw_c26 {X : ch_X} {E : ch_E} {b N : Nat} {xs : Nat → Int32} (K : lw_X X E b N xs) {i : Nat} (hi : 6 * i + 6 ≤ N) (hN : N ≤ 3072) {kc ks : Nat} (hkc : kc + 1 ≤ 601024 ∧ ks + 6 ≤ 7293034) {S : ch_S} {μ : ch_M} {xa ma oa : Nat} (hL : lw_S E S μ xa ma oa) (kk : ∀ S' μ', lw_S E S' μ' xa ma oa → ch_W X E 7 S' μ' (kc + 1) (ks + 6) 2444 [(0, .ref b), (1, .ref xa), (2, .ref ma), (3, .ref oa), (4, .int (nI (6 * i)))] []) : ch_W X E 7 S μ kc ks 1650 [(0, .ref b), (1, .ref xa), (2, .ref ma), (3, .ref oa), (4, .int (nI (6 * i)))] [] := by
  obtain ⟨h, hG, hX, hbl, hbA, hl⟩ := K
  obtain ⟨hs, h34, rfl, rfl, rfl, hI⟩ := hL
  obtain ⟨k, M, dd, mc, ms, hd9, hmc, hms, hH, hR9⟩ := k_c_isBarred (l := x_l X) hl hs h34 hI (x1 := (xs (Int32.toNatClampNeg (nI (6 * i) + 1)))) (x2 := (xs (Int32.toNatClampNeg (nI (6 * i) + 2))))
  refine ca_aload_nr h dL_law_1650 rfl ?_
  refine ca_aload_nr h dL_law_1651 rfl ?_
  refine ca_iload h dL_law_1652 rfl ?_
  refine ca_iconst h dL_law_1654 ik_1 ?_
  refine ca_iadd h dL_law_1655 ?_
  refine ca_sld h hX hbl hbA (show vp_in (nI (6 * i) + nI 1) N from lw_in hi (by decide) hN) dL_law_1656 ?_
  refine ca_aload_nr h dL_law_1657 rfl ?_
  refine ca_iload h dL_law_1658 rfl ?_
  refine ca_iconst h dL_law_1660 ik_2 ?_
  refine ca_iadd h dL_law_1661 ?_
  refine ca_sld h hX hbl hbA (show vp_in (nI (6 * i) + nI 2) N from lw_in hi (by decide) hN) dL_law_1662 ?_
  refine ca_aload_nr h dL_law_1663 rfl ?_
  refine ca_callSW h hG kw_1128 kw_1129 kw_0 kw_1130 (n := 4) ⟨by decide, by decide, by decide +kernel⟩ hH (st := []) rfl rfl (lw_ble (by omega)) rfl ⟨by omega, by omega⟩ rfl dL_law_1664 ?_
  rintro v S' μ' ⟨rfl, hs', g, g2, rfl⟩
  show ch_W X E 7 S' μ' (kc + mc) (ks + ms) 1667 [(0, .ref b), (1, .ref (S.1 15 11 0)), (2, .ref (S.1 16 22 0)), (3, .ref (S.1 17 34 0)), (4, .int (nI (6 * i)))] [.int k]
  rw [← g 15 11 0 (by decide), ← g 16 22 0 (by decide), ← g 17 34 0 (by decide)] at kk ⊢
  have h34' := g2 17 34 0 h34
  refine ca_istore h dL_law_1667 rfl ?_
  refine ca_aload_nr h dL_law_1669 rfl ?_
  refine ca_aload_nr h dL_law_1670 rfl ?_
  refine ca_iload h dL_law_1671 rfl ?_
  refine ca_iconst h dL_law_1673 ik_1 ?_
  refine ca_iadd h dL_law_1674 ?_
  refine ca_sld h hX hbl hbA (show vp_in (nI (6 * i) + nI 1) N from lw_in hi (by decide) hN) dL_law_1675 ?_
  refine ca_aload_nr h dL_law_1676 rfl ?_
  refine ca_iload h dL_law_1677 rfl ?_
  refine ca_iconst h dL_law_1679 ik_2 ?_
  refine ca_iadd h dL_law_1680 ?_
  refine ca_sld h hX hbl hbA (show vp_in (nI (6 * i) + nI 2) N from lw_in hi (by decide) hN) dL_law_1681 ?_
  refine ca_callV h hG ml_L_212 (hR9 S' hs') (ci := 12) (st := []) rfl rfl rfl (hs'.1 16 22 0 ⟨rfl, rfl⟩) rfl rfl rfl rfl ⟨by omega, by omega⟩ (Nat.zero_le _) dL_law_1682 ?_
  rintro v S2 μ2 ⟨z, rfl, rfl, h6, hI2, hz, hzb⟩
  show ch_W X E 7 S2 μ2 (kc + mc + 0) (ks + ms + 0) 1685 [(5, .int k), (0, .ref b), (1, .ref (S2.1 15 11 0)), (2, .ref (S2.1 16 22 0)), (3, .ref (S2.1 17 34 0)), (4, .int (nI (6 * i)))] [.int z]
  have hs' := hs'
  refine ca_istore h dL_law_1685 rfl ?_
  refine ca_aload_nr h dL_law_1687 rfl ?_
  refine ca_vi h hG ml_L_126 (c_X12_thrown hs') (ci := 12) rfl rfl rfl (hs'.1 16 22 0 ⟨rfl, rfl⟩) rfl rfl rfl rfl ⟨by omega, by omega⟩ rfl dL_law_1688 ?_
  rw [h6]
  refine ca_iload h dL_law_1691 rfl ?_
  refine ca_icmp_eq (tgt := 1698) h dL_law_1693 (by decide) (fun _ => ?_) (fun c9 => absurd rfl c9)
  refine ca_iload h dL_law_1698 rfl ?_
  refine ca_if_ne (tgt := 1722) h dL_law_1700 (by decide) (fun ck => ?_) (fun ck => ?_)
  ·
    refine ca_goto (tgt := 2444) h dL_law_1722 (by decide) ?_
    refine ca_pick [2, 3, 4, 5, 6] rfl ?_
    refine ca_widen (k := kc + 1) (n := ks + 6) (by omega) (by omega) ?_
    exact kk S2 μ2 ⟨hs', h34', rfl, rfl, rfl, hI2⟩
  refine ca_aload_nr h dL_law_1703 rfl ?_
  refine ca_iconst h dL_law_1704 ik_0 ?_
  refine ca_lald h (k := 17) (kd := 34) (i := 0) (n := 1) rfl h34' rfl (show vp_in (nI 0) 1 from vp_in_nI (by decide) (by decide)) dL_law_1705 ?_
  refine ca_iload h dL_law_1706 rfl ?_
  have hz2 := hz ck
  refine ca_if_eq (tgt := 1715) h dL_law_1708 (by decide) (fun cz => ?_) (fun cz => ?_)
  ·
    refine ca_lconst h dL_law_1715 (v := 0) (by decide) ?_
    refine ca_lcmp0 h (by show (μ2 17 34 0 0).toInt64 = 0; rw [hz2, cz]; rfl) dL_law_1716 ?_
    refine ca_if_eq (tgt := 1722) h dL_law_1717 (by decide) (fun _ => ?_) (fun c9 => absurd rfl c9)
    refine ca_goto (tgt := 2444) h dL_law_1722 (by decide) ?_
    refine ca_pick [2, 3, 4, 5, 6] rfl ?_
    refine ca_widen (k := kc + 1) (n := ks + 6) (by omega) (by omega) ?_
    exact kk S2 μ2 ⟨hs', h34', rfl, rfl, rfl, hI2⟩
  ·
    refine ca_lconst h dL_law_1711 (v := 1) (by decide) ?_
    refine ca_goto (tgt := 1716) h dL_law_1712 (by decide) ?_
    refine ca_lcmp0 h (by show (μ2 17 34 0 0).toInt64 = 1; rw [hz2, hzb.resolve_left cz]; rfl) dL_law_1716 ?_
    refine ca_if_eq (tgt := 1722) h dL_law_1717 (by decide) (fun _ => ?_) (fun c9 => absurd rfl c9)
    refine ca_goto (tgt := 2444) h dL_law_1722 (by decide) ?_
    refine ca_pick [2, 3, 4, 5, 6] rfl ?_
    refine ca_widen (k := kc + 1) (n := ks + 6) (by omega) (by omega) ?_
    exact kk S2 μ2 ⟨hs', h34', rfl, rfl, rfl, hI2⟩
set_option maxHeartbeats 400000 in
theorem lw_c27 {X : ch_X} {E : ch_E} {b N : Nat} {xs : Nat → Int32} (K : lw_X X E b N xs) {i : Nat} (hi : 6 * i + 6 ≤ N) (hN : N ≤ 3072) {kc ks : Nat} (hkc : kc + 1 ≤ 601024 ∧ ks + 6 ≤ 7293034) {S : ch_S} {μ : ch_M} {xa ma oa : Nat} (hL : lw_S E S μ xa ma oa) (kk : ∀ S' μ', lw_S E S' μ' xa ma oa → ch_W X E 7 S' μ' (kc + 1) (ks + 6) 2444 [(0, .ref b), (1, .ref xa), (2, .ref ma), (3, .ref oa), (4, .int (nI (6 * i)))] []) : ch_W X E 7 S μ kc ks 1725 [(0, .ref b), (1, .ref xa), (2, .ref ma), (3, .ref oa), (4, .int (nI (6 * i)))] [] := by
  obtain ⟨h, hG, hX, hbl, hbA, hl⟩ := K
  obtain ⟨hs, h34, rfl, rfl, rfl, hI⟩ := hL
  obtain ⟨k, M, dd, mc, ms, hd9, hmc, hms, hH, hR9⟩ := k_c_candidate (l := x_l X) hl hs h34 hI (x1 := (xs (Int32.toNatClampNeg (nI (6 * i) + 1)))) (x2 := (xs (Int32.toNatClampNeg (nI (6 * i) + 2))))
  refine ca_aload_nr h dL_law_1725 rfl ?_
  refine ca_aload_nr h dL_law_1726 rfl ?_
  refine ca_iload h dL_law_1727 rfl ?_
  refine ca_iconst h dL_law_1729 ik_1 ?_
  refine ca_iadd h dL_law_1730 ?_
  refine ca_sld h hX hbl hbA (show vp_in (nI (6 * i) + nI 1) N from lw_in hi (by decide) hN) dL_law_1731 ?_
  refine ca_aload_nr h dL_law_1732 rfl ?_
  refine ca_iload h dL_law_1733 rfl ?_
  refine ca_iconst h dL_law_1735 ik_2 ?_
  refine ca_iadd h dL_law_1736 ?_
  refine ca_sld h hX hbl hbA (show vp_in (nI (6 * i) + nI 2) N from lw_in hi (by decide) hN) dL_law_1737 ?_
  refine ca_aload_nr h dL_law_1738 rfl ?_
  refine ca_callSW h hG kw_1136 kw_1137 kw_0 kw_1138 (n := 4) ⟨by decide, by decide, by decide +kernel⟩ hH (st := []) rfl rfl (lw_ble (by omega)) rfl ⟨by omega, by omega⟩ rfl dL_law_1739 ?_
  rintro v S' μ' ⟨rfl, hs', g, g2, rfl⟩
  show ch_W X E 7 S' μ' (kc + mc) (ks + ms) 1742 [(0, .ref b), (1, .ref (S.1 15 11 0)), (2, .ref (S.1 16 22 0)), (3, .ref (S.1 17 34 0)), (4, .int (nI (6 * i)))] [.int k]
  rw [← g 15 11 0 (by decide), ← g 16 22 0 (by decide), ← g 17 34 0 (by decide)] at kk ⊢
  have h34' := g2 17 34 0 h34
  refine ca_istore h dL_law_1742 rfl ?_
  refine ca_aload_nr h dL_law_1744 rfl ?_
  refine ca_aload_nr h dL_law_1745 rfl ?_
  refine ca_iload h dL_law_1746 rfl ?_
  refine ca_iconst h dL_law_1748 ik_1 ?_
  refine ca_iadd h dL_law_1749 ?_
  refine ca_sld h hX hbl hbA (show vp_in (nI (6 * i) + nI 1) N from lw_in hi (by decide) hN) dL_law_1750 ?_
  refine ca_aload_nr h dL_law_1751 rfl ?_
  refine ca_iload h dL_law_1752 rfl ?_
  refine ca_iconst h dL_law_1754 ik_2 ?_
  refine ca_iadd h dL_law_1755 ?_
  refine ca_sld h hX hbl hbA (show vp_in (nI (6 * i) + nI 2) N from lw_in hi (by decide) hN) dL_law_1756 ?_
  refine ca_callV h hG ml_L_215 (hR9 S' hs') (ci := 12) (st := []) rfl rfl rfl (hs'.1 16 22 0 ⟨rfl, rfl⟩) rfl rfl rfl rfl ⟨by omega, by omega⟩ (Nat.zero_le _) dL_law_1757 ?_
  rintro v S2 μ2 ⟨z, rfl, rfl, h6, hI2, hz, hzb⟩
  show ch_W X E 7 S2 μ2 (kc + mc + 0) (ks + ms + 0) 1760 [(5, .int k), (0, .ref b), (1, .ref (S2.1 15 11 0)), (2, .ref (S2.1 16 22 0)), (3, .ref (S2.1 17 34 0)), (4, .int (nI (6 * i)))] [.int z]
  have hs' := hs'
  refine ca_istore h dL_law_1760 rfl ?_
  refine ca_aload_nr h dL_law_1762 rfl ?_
  refine ca_vi h hG ml_L_126 (c_X12_thrown hs') (ci := 12) rfl rfl rfl (hs'.1 16 22 0 ⟨rfl, rfl⟩) rfl rfl rfl rfl ⟨by omega, by omega⟩ rfl dL_law_1763 ?_
  rw [h6]
  refine ca_iload h dL_law_1766 rfl ?_
  refine ca_icmp_eq (tgt := 1773) h dL_law_1768 (by decide) (fun _ => ?_) (fun c9 => absurd rfl c9)
  refine ca_iload h dL_law_1773 rfl ?_
  refine ca_if_ne (tgt := 1790) h dL_law_1775 (by decide) (fun ck => ?_) (fun ck => ?_)
  ·
    refine ca_goto (tgt := 2444) h dL_law_1790 (by decide) ?_
    refine ca_pick [2, 3, 4, 5, 6] rfl ?_
    refine ca_widen (k := kc + 1) (n := ks + 6) (by omega) (by omega) ?_
    exact kk S2 μ2 ⟨hs', h34', rfl, rfl, rfl, hI2⟩
  refine ca_aload_nr h dL_law_1778 rfl ?_
  refine ca_iconst h dL_law_1779 ik_0 ?_
  refine ca_lald h (k := 17) (kd := 34) (i := 0) (n := 1) rfl h34' rfl (show vp_in (nI 0) 1 from vp_in_nI (by decide) (by decide)) dL_law_1780 ?_
  refine ca_iload h dL_law_1781 rfl ?_
  refine ca_i2l h dL_law_1783 ?_
  refine ca_lcmp0 h (congrArg Int32.toInt64 (hz ck)) dL_law_1784 ?_
  refine ca_if_eq (tgt := 1790) h dL_law_1785 (by decide) (fun _ => ?_) (fun c9 => absurd rfl c9)
  refine ca_goto (tgt := 2444) h dL_law_1790 (by decide) ?_
  refine ca_pick [2, 3, 4, 5, 6] rfl ?_
  refine ca_widen (k := kc + 1) (n := ks + 6) (by omega) (by omega) ?_
  exact kk S2 μ2 ⟨hs', h34', rfl, rfl, rfl, hI2⟩
set_option maxHeartbeats 400000 in
theorem lw_c28 {X : ch_X} {E : ch_E} {b N : Nat} {xs : Nat → Int32} (K : lw_X X E b N xs) {i : Nat} (hi : 6 * i + 6 ≤ N) (hN : N ≤ 3072) {kc ks : Nat} (hkc : kc + 1 ≤ 601024 ∧ ks + 6 ≤ 7293034) {S : ch_S} {μ : ch_M} {xa ma oa : Nat} (hL : lw_S E S μ xa ma oa) (kk : ∀ S' μ', lw_S E S' μ' xa ma oa → ch_W X E 7 S' μ' (kc + 1) (ks + 6) 2444 [(0, .ref b), (1, .ref xa), (2, .ref ma), (3, .ref oa), (4, .int (nI (6 * i)))] []) : ch_W X E 7 S μ kc ks 1793 [(0, .ref b), (1, .ref xa), (2, .ref ma), (3, .ref oa), (4, .int (nI (6 * i)))] [] := by
  obtain ⟨h, hG, hX, hbl, hbA, hl⟩ := K
  obtain ⟨hs, h34, rfl, rfl, rfl, hI⟩ := hL
  obtain ⟨k, M, dd, mc, ms, hd9, hmc, hms, hH, hR9⟩ := k_c_busyChannels (l := x_l X) hl hs h34 hI (x1 := (xs (Int32.toNatClampNeg (nI (6 * i) + 1))))
  refine ca_aload_nr h dL_law_1793 rfl ?_
  refine ca_aload_nr h dL_law_1794 rfl ?_
  refine ca_iload h dL_law_1795 rfl ?_
  refine ca_iconst h dL_law_1797 ik_1 ?_
  refine ca_iadd h dL_law_1798 ?_
  refine ca_sld h hX hbl hbA (show vp_in (nI (6 * i) + nI 1) N from lw_in hi (by decide) hN) dL_law_1799 ?_
  refine ca_aload_nr h dL_law_1800 rfl ?_
  refine ca_callSW h hG kw_1151 kw_1152 kw_0 kw_1153 (n := 3) ⟨by decide, by decide, by decide +kernel⟩ hH (st := []) rfl rfl (lw_ble (by omega)) rfl ⟨by omega, by omega⟩ rfl dL_law_1801 ?_
  rintro v S' μ' ⟨rfl, hs', g, g2, rfl⟩
  show ch_W X E 7 S' μ' (kc + mc) (ks + ms) 1804 [(0, .ref b), (1, .ref (S.1 15 11 0)), (2, .ref (S.1 16 22 0)), (3, .ref (S.1 17 34 0)), (4, .int (nI (6 * i)))] [.int k]
  rw [← g 15 11 0 (by decide), ← g 16 22 0 (by decide), ← g 17 34 0 (by decide)] at kk ⊢
  have h34' := g2 17 34 0 h34
  refine ca_istore h dL_law_1804 rfl ?_
  refine ca_aload_nr h dL_law_1806 rfl ?_
  refine ca_aload_nr h dL_law_1807 rfl ?_
  refine ca_iload h dL_law_1808 rfl ?_
  refine ca_iconst h dL_law_1810 ik_1 ?_
  refine ca_iadd h dL_law_1811 ?_
  refine ca_sld h hX hbl hbA (show vp_in (nI (6 * i) + nI 1) N from lw_in hi (by decide) hN) dL_law_1812 ?_
  refine ca_callV h hG ml_L_218 (hR9 S' hs') (ci := 12) (st := []) rfl rfl rfl (hs'.1 16 22 0 ⟨rfl, rfl⟩) rfl rfl rfl rfl ⟨by omega, by omega⟩ (Nat.zero_le _) dL_law_1813 ?_
  rintro v S2 μ2 ⟨z, rfl, rfl, h6, hI2, hz, hzb⟩
  show ch_W X E 7 S2 μ2 (kc + mc + 0) (ks + ms + 0) 1816 [(5, .int k), (0, .ref b), (1, .ref (S2.1 15 11 0)), (2, .ref (S2.1 16 22 0)), (3, .ref (S2.1 17 34 0)), (4, .int (nI (6 * i)))] [.int z]
  have hs' := hs'
  refine ca_istore h dL_law_1816 rfl ?_
  refine ca_aload_nr h dL_law_1818 rfl ?_
  refine ca_vi h hG ml_L_126 (c_X12_thrown hs') (ci := 12) rfl rfl rfl (hs'.1 16 22 0 ⟨rfl, rfl⟩) rfl rfl rfl rfl ⟨by omega, by omega⟩ rfl dL_law_1819 ?_
  rw [h6]
  refine ca_iload h dL_law_1822 rfl ?_
  refine ca_icmp_eq (tgt := 1829) h dL_law_1824 (by decide) (fun _ => ?_) (fun c9 => absurd rfl c9)
  refine ca_iload h dL_law_1829 rfl ?_
  refine ca_if_ne (tgt := 1846) h dL_law_1831 (by decide) (fun ck => ?_) (fun ck => ?_)
  ·
    refine ca_goto (tgt := 2444) h dL_law_1846 (by decide) ?_
    refine ca_pick [2, 3, 4, 5, 6] rfl ?_
    refine ca_widen (k := kc + 1) (n := ks + 6) (by omega) (by omega) ?_
    exact kk S2 μ2 ⟨hs', h34', rfl, rfl, rfl, hI2⟩
  refine ca_aload_nr h dL_law_1834 rfl ?_
  refine ca_iconst h dL_law_1835 ik_0 ?_
  refine ca_lald h (k := 17) (kd := 34) (i := 0) (n := 1) rfl h34' rfl (show vp_in (nI 0) 1 from vp_in_nI (by decide) (by decide)) dL_law_1836 ?_
  refine ca_iload h dL_law_1837 rfl ?_
  refine ca_i2l h dL_law_1839 ?_
  refine ca_lcmp0 h (congrArg Int32.toInt64 (hz ck)) dL_law_1840 ?_
  refine ca_if_eq (tgt := 1846) h dL_law_1841 (by decide) (fun _ => ?_) (fun c9 => absurd rfl c9)
  refine ca_goto (tgt := 2444) h dL_law_1846 (by decide) ?_
  refine ca_pick [2, 3, 4, 5, 6] rfl ?_
  refine ca_widen (k := kc + 1) (n := ks + 6) (by omega) (by omega) ?_
  exact kk S2 μ2 ⟨hs', h34', rfl, rfl, rfl, hI2⟩
set_option maxHeartbeats 400000 in
theorem lw_c29 {X : ch_X} {E : ch_E} {b N : Nat} {xs : Nat → Int32} (K : lw_X X E b N xs) {i : Nat} (hi : 6 * i + 6 ≤ N) (hN : N ≤ 3072) {kc ks : Nat} (hkc : kc + 1 ≤ 601024 ∧ ks + 6 ≤ 7293034) {S : ch_S} {μ : ch_M} {xa ma oa : Nat} (hL : lw_S E S μ xa ma oa) (kk : ∀ S' μ', lw_S E S' μ' xa ma oa → ch_W X E 7 S' μ' (kc + 1) (ks + 6) 2444 [(0, .ref b), (1, .ref xa), (2, .ref ma), (3, .ref oa), (4, .int (nI (6 * i)))] []) : ch_W X E 7 S μ kc ks 1849 [(0, .ref b), (1, .ref xa), (2, .ref ma), (3, .ref oa), (4, .int (nI (6 * i)))] [] := by
  obtain ⟨h, hG, hX, hbl, hbA, hl⟩ := K
  obtain ⟨hs, h34, rfl, rfl, rfl, hI⟩ := hL
  obtain ⟨k, M, dd, mc, ms, hd9, hmc, hms, hH, hR9⟩ := k_c_queueLength (l := x_l X) hl hs h34 hI (x1 := (xs (Int32.toNatClampNeg (nI (6 * i) + 1))))
  refine ca_aload_nr h dL_law_1849 rfl ?_
  refine ca_aload_nr h dL_law_1850 rfl ?_
  refine ca_iload h dL_law_1851 rfl ?_
  refine ca_iconst h dL_law_1853 ik_1 ?_
  refine ca_iadd h dL_law_1854 ?_
  refine ca_sld h hX hbl hbA (show vp_in (nI (6 * i) + nI 1) N from lw_in hi (by decide) hN) dL_law_1855 ?_
  refine ca_aload_nr h dL_law_1856 rfl ?_
  refine ca_callSW h hG kw_1159 kw_1160 kw_0 kw_1161 (n := 3) ⟨by decide, by decide, by decide +kernel⟩ hH (st := []) rfl rfl (lw_ble (by omega)) rfl ⟨by omega, by omega⟩ rfl dL_law_1857 ?_
  rintro v S' μ' ⟨rfl, hs', g, g2, rfl⟩
  show ch_W X E 7 S' μ' (kc + mc) (ks + ms) 1860 [(0, .ref b), (1, .ref (S.1 15 11 0)), (2, .ref (S.1 16 22 0)), (3, .ref (S.1 17 34 0)), (4, .int (nI (6 * i)))] [.int k]
  rw [← g 15 11 0 (by decide), ← g 16 22 0 (by decide), ← g 17 34 0 (by decide)] at kk ⊢
  have h34' := g2 17 34 0 h34
  refine ca_istore h dL_law_1860 rfl ?_
  refine ca_aload_nr h dL_law_1862 rfl ?_
  refine ca_aload_nr h dL_law_1863 rfl ?_
  refine ca_iload h dL_law_1864 rfl ?_
  refine ca_iconst h dL_law_1866 ik_1 ?_
  refine ca_iadd h dL_law_1867 ?_
  refine ca_sld h hX hbl hbA (show vp_in (nI (6 * i) + nI 1) N from lw_in hi (by decide) hN) dL_law_1868 ?_
  refine ca_callV h hG ml_L_221 (hR9 S' hs') (ci := 12) (st := []) rfl rfl rfl (hs'.1 16 22 0 ⟨rfl, rfl⟩) rfl rfl rfl rfl ⟨by omega, by omega⟩ (Nat.zero_le _) dL_law_1869 ?_
  rintro v S2 μ2 ⟨z, rfl, rfl, h6, hI2, hz, hzb⟩
  show ch_W X E 7 S2 μ2 (kc + mc + 0) (ks + ms + 0) 1872 [(5, .int k), (0, .ref b), (1, .ref (S2.1 15 11 0)), (2, .ref (S2.1 16 22 0)), (3, .ref (S2.1 17 34 0)), (4, .int (nI (6 * i)))] [.int z]
  have hs' := hs'
  refine ca_istore h dL_law_1872 rfl ?_
  refine ca_aload_nr h dL_law_1874 rfl ?_
  refine ca_vi h hG ml_L_126 (c_X12_thrown hs') (ci := 12) rfl rfl rfl (hs'.1 16 22 0 ⟨rfl, rfl⟩) rfl rfl rfl rfl ⟨by omega, by omega⟩ rfl dL_law_1875 ?_
  rw [h6]
  refine ca_iload h dL_law_1878 rfl ?_
  refine ca_icmp_eq (tgt := 1885) h dL_law_1880 (by decide) (fun _ => ?_) (fun c9 => absurd rfl c9)
  refine ca_iload h dL_law_1885 rfl ?_
  refine ca_if_ne (tgt := 1902) h dL_law_1887 (by decide) (fun ck => ?_) (fun ck => ?_)
  ·
    refine ca_goto (tgt := 2444) h dL_law_1902 (by decide) ?_
    refine ca_pick [2, 3, 4, 5, 6] rfl ?_
    refine ca_widen (k := kc + 1) (n := ks + 6) (by omega) (by omega) ?_
    exact kk S2 μ2 ⟨hs', h34', rfl, rfl, rfl, hI2⟩
  refine ca_aload_nr h dL_law_1890 rfl ?_
  refine ca_iconst h dL_law_1891 ik_0 ?_
  refine ca_lald h (k := 17) (kd := 34) (i := 0) (n := 1) rfl h34' rfl (show vp_in (nI 0) 1 from vp_in_nI (by decide) (by decide)) dL_law_1892 ?_
  refine ca_iload h dL_law_1893 rfl ?_
  refine ca_i2l h dL_law_1895 ?_
  refine ca_lcmp0 h (congrArg Int32.toInt64 (hz ck)) dL_law_1896 ?_
  refine ca_if_eq (tgt := 1902) h dL_law_1897 (by decide) (fun _ => ?_) (fun c9 => absurd rfl c9)
  refine ca_goto (tgt := 2444) h dL_law_1902 (by decide) ?_
  refine ca_pick [2, 3, 4, 5, 6] rfl ?_
  refine ca_widen (k := kc + 1) (n := ks + 6) (by omega) (by omega) ?_
  exact kk S2 μ2 ⟨hs', h34', rfl, rfl, rfl, hI2⟩
set_option maxHeartbeats 400000 in
theorem lw_c30 {X : ch_X} {E : ch_E} {b N : Nat} {xs : Nat → Int32} (K : lw_X X E b N xs) {i : Nat} (hi : 6 * i + 6 ≤ N) (hN : N ≤ 3072) {kc ks : Nat} (hkc : kc + 1 ≤ 601024 ∧ ks + 6 ≤ 7293034) {S : ch_S} {μ : ch_M} {xa ma oa : Nat} (hL : lw_S E S μ xa ma oa) (kk : ∀ S' μ', lw_S E S' μ' xa ma oa → ch_W X E 7 S' μ' (kc + 1) (ks + 6) 2444 [(0, .ref b), (1, .ref xa), (2, .ref ma), (3, .ref oa), (4, .int (nI (6 * i)))] []) : ch_W X E 7 S μ kc ks 1905 [(0, .ref b), (1, .ref xa), (2, .ref ma), (3, .ref oa), (4, .int (nI (6 * i)))] [] := by
  obtain ⟨h, hG, hX, hbl, hbA, hl⟩ := K
  obtain ⟨hs, h34, rfl, rfl, rfl, hI⟩ := hL
  obtain ⟨k, M, dd, mc, ms, hd9, hmc, hms, hH, hR9⟩ := k_c_queued (l := x_l X) hl hs h34 hI (x1 := (xs (Int32.toNatClampNeg (nI (6 * i) + 1)))) (x2 := (xs (Int32.toNatClampNeg (nI (6 * i) + 2))))
  refine ca_aload_nr h dL_law_1905 rfl ?_
  refine ca_aload_nr h dL_law_1906 rfl ?_
  refine ca_iload h dL_law_1907 rfl ?_
  refine ca_iconst h dL_law_1909 ik_1 ?_
  refine ca_iadd h dL_law_1910 ?_
  refine ca_sld h hX hbl hbA (show vp_in (nI (6 * i) + nI 1) N from lw_in hi (by decide) hN) dL_law_1911 ?_
  refine ca_aload_nr h dL_law_1912 rfl ?_
  refine ca_iload h dL_law_1913 rfl ?_
  refine ca_iconst h dL_law_1915 ik_2 ?_
  refine ca_iadd h dL_law_1916 ?_
  refine ca_sld h hX hbl hbA (show vp_in (nI (6 * i) + nI 2) N from lw_in hi (by decide) hN) dL_law_1917 ?_
  refine ca_aload_nr h dL_law_1918 rfl ?_
  refine ca_callSW h hG kw_1167 kw_1168 kw_0 kw_1169 (n := 4) ⟨by decide, by decide, by decide +kernel⟩ hH (st := []) rfl rfl (lw_ble (by omega)) rfl ⟨by omega, by omega⟩ rfl dL_law_1919 ?_
  rintro v S' μ' ⟨rfl, hs', g, g2, rfl⟩
  show ch_W X E 7 S' μ' (kc + mc) (ks + ms) 1922 [(0, .ref b), (1, .ref (S.1 15 11 0)), (2, .ref (S.1 16 22 0)), (3, .ref (S.1 17 34 0)), (4, .int (nI (6 * i)))] [.int k]
  rw [← g 15 11 0 (by decide), ← g 16 22 0 (by decide), ← g 17 34 0 (by decide)] at kk ⊢
  have h34' := g2 17 34 0 h34
  refine ca_istore h dL_law_1922 rfl ?_
  refine ca_aload_nr h dL_law_1924 rfl ?_
  refine ca_aload_nr h dL_law_1925 rfl ?_
  refine ca_iload h dL_law_1926 rfl ?_
  refine ca_iconst h dL_law_1928 ik_1 ?_
  refine ca_iadd h dL_law_1929 ?_
  refine ca_sld h hX hbl hbA (show vp_in (nI (6 * i) + nI 1) N from lw_in hi (by decide) hN) dL_law_1930 ?_
  refine ca_aload_nr h dL_law_1931 rfl ?_
  refine ca_iload h dL_law_1932 rfl ?_
  refine ca_iconst h dL_law_1934 ik_2 ?_
  refine ca_iadd h dL_law_1935 ?_
  refine ca_sld h hX hbl hbA (show vp_in (nI (6 * i) + nI 2) N from lw_in hi (by decide) hN) dL_law_1936 ?_
  refine ca_callV h hG ml_L_224 (hR9 S' hs') (ci := 12) (st := []) rfl rfl rfl (hs'.1 16 22 0 ⟨rfl, rfl⟩) rfl rfl rfl rfl ⟨by omega, by omega⟩ (Nat.zero_le _) dL_law_1937 ?_
  rintro v S2 μ2 ⟨z, rfl, rfl, h6, hI2, hz, hzb⟩
  show ch_W X E 7 S2 μ2 (kc + mc + 0) (ks + ms + 0) 1940 [(5, .int k), (0, .ref b), (1, .ref (S2.1 15 11 0)), (2, .ref (S2.1 16 22 0)), (3, .ref (S2.1 17 34 0)), (4, .int (nI (6 * i)))] [.int z]
  have hs' := hs'
  refine ca_istore h dL_law_1940 rfl ?_
  refine ca_aload_nr h dL_law_1942 rfl ?_
  refine ca_vi h hG ml_L_126 (c_X12_thrown hs') (ci := 12) rfl rfl rfl (hs'.1 16 22 0 ⟨rfl, rfl⟩) rfl rfl rfl rfl ⟨by omega, by omega⟩ rfl dL_law_1943 ?_
  rw [h6]
  refine ca_iload h dL_law_1946 rfl ?_
  refine ca_icmp_eq (tgt := 1953) h dL_law_1948 (by decide) (fun _ => ?_) (fun c9 => absurd rfl c9)
  refine ca_iload h dL_law_1953 rfl ?_
  refine ca_if_ne (tgt := 1970) h dL_law_1955 (by decide) (fun ck => ?_) (fun ck => ?_)
  ·
    refine ca_goto (tgt := 2444) h dL_law_1970 (by decide) ?_
    refine ca_pick [2, 3, 4, 5, 6] rfl ?_
    refine ca_widen (k := kc + 1) (n := ks + 6) (by omega) (by omega) ?_
    exact kk S2 μ2 ⟨hs', h34', rfl, rfl, rfl, hI2⟩
  refine ca_aload_nr h dL_law_1958 rfl ?_
  refine ca_iconst h dL_law_1959 ik_0 ?_
  refine ca_lald h (k := 17) (kd := 34) (i := 0) (n := 1) rfl h34' rfl (show vp_in (nI 0) 1 from vp_in_nI (by decide) (by decide)) dL_law_1960 ?_
  refine ca_iload h dL_law_1961 rfl ?_
  refine ca_i2l h dL_law_1963 ?_
  refine ca_lcmp0 h (congrArg Int32.toInt64 (hz ck)) dL_law_1964 ?_
  refine ca_if_eq (tgt := 1970) h dL_law_1965 (by decide) (fun _ => ?_) (fun c9 => absurd rfl c9)
  refine ca_goto (tgt := 2444) h dL_law_1970 (by decide) ?_
  refine ca_pick [2, 3, 4, 5, 6] rfl ?_
  refine ca_widen (k := kc + 1) (n := ks + 6) (by omega) (by omega) ?_
  exact kk S2 μ2 ⟨hs', h34', rfl, rfl, rfl, hI2⟩
set_option maxHeartbeats 400000 in
theorem lw_c31 {X : ch_X} {E : ch_E} {b N : Nat} {xs : Nat → Int32} (K : lw_X X E b N xs) {i : Nat} (hi : 6 * i + 6 ≤ N) (hN : N ≤ 3072) {kc ks : Nat} (hkc : kc + 1 ≤ 601024 ∧ ks + 6 ≤ 7293034) {S : ch_S} {μ : ch_M} {xa ma oa : Nat} (hL : lw_S E S μ xa ma oa) (kk : ∀ S' μ', lw_S E S' μ' xa ma oa → ch_W X E 7 S' μ' (kc + 1) (ks + 6) 2444 [(0, .ref b), (1, .ref xa), (2, .ref ma), (3, .ref oa), (4, .int (nI (6 * i)))] []) : ch_W X E 7 S μ kc ks 1973 [(0, .ref b), (1, .ref xa), (2, .ref ma), (3, .ref oa), (4, .int (nI (6 * i)))] [] := by
  obtain ⟨h, hG, hX, hbl, hbA, hl⟩ := K
  obtain ⟨hs, h34, rfl, rfl, rfl, hI⟩ := hL
  obtain ⟨k, M, dd, mc, ms, hd9, hmc, hms, hH, hR9⟩ := k_c_successes (l := x_l X) hl hs h34 hI (x1 := (xs (Int32.toNatClampNeg (nI (6 * i) + 1)))) (x2 := (xs (Int32.toNatClampNeg (nI (6 * i) + 2))))
  refine ca_aload_nr h dL_law_1973 rfl ?_
  refine ca_aload_nr h dL_law_1974 rfl ?_
  refine ca_iload h dL_law_1975 rfl ?_
  refine ca_iconst h dL_law_1977 ik_1 ?_
  refine ca_iadd h dL_law_1978 ?_
  refine ca_sld h hX hbl hbA (show vp_in (nI (6 * i) + nI 1) N from lw_in hi (by decide) hN) dL_law_1979 ?_
  refine ca_aload_nr h dL_law_1980 rfl ?_
  refine ca_iload h dL_law_1981 rfl ?_
  refine ca_iconst h dL_law_1983 ik_2 ?_
  refine ca_iadd h dL_law_1984 ?_
  refine ca_sld h hX hbl hbA (show vp_in (nI (6 * i) + nI 2) N from lw_in hi (by decide) hN) dL_law_1985 ?_
  refine ca_aload_nr h dL_law_1986 rfl ?_
  refine ca_callSW h hG kw_1175 kw_1176 kw_0 kw_1177 (n := 4) ⟨by decide, by decide, by decide +kernel⟩ hH (st := []) rfl rfl (lw_ble (by omega)) rfl ⟨by omega, by omega⟩ rfl dL_law_1987 ?_
  rintro v S' μ' ⟨rfl, hs', g, g2, rfl⟩
  show ch_W X E 7 S' μ' (kc + mc) (ks + ms) 1990 [(0, .ref b), (1, .ref (S.1 15 11 0)), (2, .ref (S.1 16 22 0)), (3, .ref (S.1 17 34 0)), (4, .int (nI (6 * i)))] [.int k]
  rw [← g 15 11 0 (by decide), ← g 16 22 0 (by decide), ← g 17 34 0 (by decide)] at kk ⊢
  have h34' := g2 17 34 0 h34
  refine ca_istore h dL_law_1990 rfl ?_
  refine ca_aload_nr h dL_law_1992 rfl ?_
  refine ca_aload_nr h dL_law_1993 rfl ?_
  refine ca_iload h dL_law_1994 rfl ?_
  refine ca_iconst h dL_law_1996 ik_1 ?_
  refine ca_iadd h dL_law_1997 ?_
  refine ca_sld h hX hbl hbA (show vp_in (nI (6 * i) + nI 1) N from lw_in hi (by decide) hN) dL_law_1998 ?_
  refine ca_aload_nr h dL_law_1999 rfl ?_
  refine ca_iload h dL_law_2000 rfl ?_
  refine ca_iconst h dL_law_2002 ik_2 ?_
  refine ca_iadd h dL_law_2003 ?_
  refine ca_sld h hX hbl hbA (show vp_in (nI (6 * i) + nI 2) N from lw_in hi (by decide) hN) dL_law_2004 ?_
  refine ca_callV h hG ml_L_227 (hR9 S' hs') (ci := 12) (st := []) rfl rfl rfl (hs'.1 16 22 0 ⟨rfl, rfl⟩) rfl rfl rfl rfl ⟨by omega, by omega⟩ (Nat.zero_le _) dL_law_2005 ?_
  rintro v S2 μ2 ⟨z, rfl, rfl, h6, hI2, hz, hzb⟩
  show ch_W X E 7 S2 μ2 (kc + mc + 0) (ks + ms + 0) 2008 [(5, .int k), (0, .ref b), (1, .ref (S2.1 15 11 0)), (2, .ref (S2.1 16 22 0)), (3, .ref (S2.1 17 34 0)), (4, .int (nI (6 * i)))] [.int z]
  have hs' := hs'
  refine ca_istore h dL_law_2008 rfl ?_
  refine ca_aload_nr h dL_law_2010 rfl ?_
  refine ca_vi h hG ml_L_126 (c_X12_thrown hs') (ci := 12) rfl rfl rfl (hs'.1 16 22 0 ⟨rfl, rfl⟩) rfl rfl rfl rfl ⟨by omega, by omega⟩ rfl dL_law_2011 ?_
  rw [h6]
  refine ca_iload h dL_law_2014 rfl ?_
  refine ca_icmp_eq (tgt := 2021) h dL_law_2016 (by decide) (fun _ => ?_) (fun c9 => absurd rfl c9)
  refine ca_iload h dL_law_2021 rfl ?_
  refine ca_if_ne (tgt := 2038) h dL_law_2023 (by decide) (fun ck => ?_) (fun ck => ?_)
  ·
    refine ca_goto (tgt := 2444) h dL_law_2038 (by decide) ?_
    refine ca_pick [2, 3, 4, 5, 6] rfl ?_
    refine ca_widen (k := kc + 1) (n := ks + 6) (by omega) (by omega) ?_
    exact kk S2 μ2 ⟨hs', h34', rfl, rfl, rfl, hI2⟩
  refine ca_aload_nr h dL_law_2026 rfl ?_
  refine ca_iconst h dL_law_2027 ik_0 ?_
  refine ca_lald h (k := 17) (kd := 34) (i := 0) (n := 1) rfl h34' rfl (show vp_in (nI 0) 1 from vp_in_nI (by decide) (by decide)) dL_law_2028 ?_
  refine ca_iload h dL_law_2029 rfl ?_
  refine ca_i2l h dL_law_2031 ?_
  refine ca_lcmp0 h (congrArg Int32.toInt64 (hz ck)) dL_law_2032 ?_
  refine ca_if_eq (tgt := 2038) h dL_law_2033 (by decide) (fun _ => ?_) (fun c9 => absurd rfl c9)
  refine ca_goto (tgt := 2444) h dL_law_2038 (by decide) ?_
  refine ca_pick [2, 3, 4, 5, 6] rfl ?_
  refine ca_widen (k := kc + 1) (n := ks + 6) (by omega) (by omega) ?_
  exact kk S2 μ2 ⟨hs', h34', rfl, rfl, rfl, hI2⟩
set_option maxHeartbeats 400000 in
theorem lw_c32 {X : ch_X} {E : ch_E} {b N : Nat} {xs : Nat → Int32} (K : lw_X X E b N xs) {i : Nat} (hi : 6 * i + 6 ≤ N) (hN : N ≤ 3072) {kc ks : Nat} (hkc : kc + 1 ≤ 601024 ∧ ks + 6 ≤ 7293034) {S : ch_S} {μ : ch_M} {xa ma oa : Nat} (hL : lw_S E S μ xa ma oa) (kk : ∀ S' μ', lw_S E S' μ' xa ma oa → ch_W X E 7 S' μ' (kc + 1) (ks + 6) 2444 [(0, .ref b), (1, .ref xa), (2, .ref ma), (3, .ref oa), (4, .int (nI (6 * i)))] []) : ch_W X E 7 S μ kc ks 2041 [(0, .ref b), (1, .ref xa), (2, .ref ma), (3, .ref oa), (4, .int (nI (6 * i)))] [] := by
  obtain ⟨h, hG, hX, hbl, hbA, hl⟩ := K
  obtain ⟨hs, h34, rfl, rfl, rfl, hI⟩ := hL
  obtain ⟨k, M, dd, mc, ms, hd9, hmc, hms, hH, hR9⟩ := k_c_refusals (l := x_l X) hl hs h34 hI (x1 := (xs (Int32.toNatClampNeg (nI (6 * i) + 1)))) (x2 := (xs (Int32.toNatClampNeg (nI (6 * i) + 2))))
  refine ca_aload_nr h dL_law_2041 rfl ?_
  refine ca_aload_nr h dL_law_2042 rfl ?_
  refine ca_iload h dL_law_2043 rfl ?_
  refine ca_iconst h dL_law_2045 ik_1 ?_
  refine ca_iadd h dL_law_2046 ?_
  refine ca_sld h hX hbl hbA (show vp_in (nI (6 * i) + nI 1) N from lw_in hi (by decide) hN) dL_law_2047 ?_
  refine ca_aload_nr h dL_law_2048 rfl ?_
  refine ca_iload h dL_law_2049 rfl ?_
  refine ca_iconst h dL_law_2051 ik_2 ?_
  refine ca_iadd h dL_law_2052 ?_
  refine ca_sld h hX hbl hbA (show vp_in (nI (6 * i) + nI 2) N from lw_in hi (by decide) hN) dL_law_2053 ?_
  refine ca_aload_nr h dL_law_2054 rfl ?_
  refine ca_callSW h hG kw_1182 kw_1183 kw_0 kw_1184 (n := 4) ⟨by decide, by decide, by decide +kernel⟩ hH (st := []) rfl rfl (lw_ble (by omega)) rfl ⟨by omega, by omega⟩ rfl dL_law_2055 ?_
  rintro v S' μ' ⟨rfl, hs', g, g2, rfl⟩
  show ch_W X E 7 S' μ' (kc + mc) (ks + ms) 2058 [(0, .ref b), (1, .ref (S.1 15 11 0)), (2, .ref (S.1 16 22 0)), (3, .ref (S.1 17 34 0)), (4, .int (nI (6 * i)))] [.int k]
  rw [← g 15 11 0 (by decide), ← g 16 22 0 (by decide), ← g 17 34 0 (by decide)] at kk ⊢
  have h34' := g2 17 34 0 h34
  refine ca_istore h dL_law_2058 rfl ?_
  refine ca_aload_nr h dL_law_2060 rfl ?_
  refine ca_aload_nr h dL_law_2061 rfl ?_
  refine ca_iload h dL_law_2062 rfl ?_
  refine ca_iconst h dL_law_2064 ik_1 ?_
  refine ca_iadd h dL_law_2065 ?_
  refine ca_sld h hX hbl hbA (show vp_in (nI (6 * i) + nI 1) N from lw_in hi (by decide) hN) dL_law_2066 ?_
  refine ca_aload_nr h dL_law_2067 rfl ?_
  refine ca_iload h dL_law_2068 rfl ?_
  refine ca_iconst h dL_law_2070 ik_2 ?_
  refine ca_iadd h dL_law_2071 ?_
  refine ca_sld h hX hbl hbA (show vp_in (nI (6 * i) + nI 2) N from lw_in hi (by decide) hN) dL_law_2072 ?_
  refine ca_callV h hG ml_L_230 (hR9 S' hs') (ci := 12) (st := []) rfl rfl rfl (hs'.1 16 22 0 ⟨rfl, rfl⟩) rfl rfl rfl rfl ⟨by omega, by omega⟩ (Nat.zero_le _) dL_law_2073 ?_
  rintro v S2 μ2 ⟨z, rfl, rfl, h6, hI2, hz, hzb⟩
  show ch_W X E 7 S2 μ2 (kc + mc + 0) (ks + ms + 0) 2076 [(5, .int k), (0, .ref b), (1, .ref (S2.1 15 11 0)), (2, .ref (S2.1 16 22 0)), (3, .ref (S2.1 17 34 0)), (4, .int (nI (6 * i)))] [.int z]
  have hs' := hs'
  refine ca_istore h dL_law_2076 rfl ?_
  refine ca_aload_nr h dL_law_2078 rfl ?_
  refine ca_vi h hG ml_L_126 (c_X12_thrown hs') (ci := 12) rfl rfl rfl (hs'.1 16 22 0 ⟨rfl, rfl⟩) rfl rfl rfl rfl ⟨by omega, by omega⟩ rfl dL_law_2079 ?_
  rw [h6]
  refine ca_iload h dL_law_2082 rfl ?_
  refine ca_icmp_eq (tgt := 2089) h dL_law_2084 (by decide) (fun _ => ?_) (fun c9 => absurd rfl c9)
  refine ca_iload h dL_law_2089 rfl ?_
  refine ca_if_ne (tgt := 2106) h dL_law_2091 (by decide) (fun ck => ?_) (fun ck => ?_)
  ·
    refine ca_goto (tgt := 2444) h dL_law_2106 (by decide) ?_
    refine ca_pick [2, 3, 4, 5, 6] rfl ?_
    refine ca_widen (k := kc + 1) (n := ks + 6) (by omega) (by omega) ?_
    exact kk S2 μ2 ⟨hs', h34', rfl, rfl, rfl, hI2⟩
  refine ca_aload_nr h dL_law_2094 rfl ?_
  refine ca_iconst h dL_law_2095 ik_0 ?_
  refine ca_lald h (k := 17) (kd := 34) (i := 0) (n := 1) rfl h34' rfl (show vp_in (nI 0) 1 from vp_in_nI (by decide) (by decide)) dL_law_2096 ?_
  refine ca_iload h dL_law_2097 rfl ?_
  refine ca_i2l h dL_law_2099 ?_
  refine ca_lcmp0 h (congrArg Int32.toInt64 (hz ck)) dL_law_2100 ?_
  refine ca_if_eq (tgt := 2106) h dL_law_2101 (by decide) (fun _ => ?_) (fun c9 => absurd rfl c9)
  refine ca_goto (tgt := 2444) h dL_law_2106 (by decide) ?_
  refine ca_pick [2, 3, 4, 5, 6] rfl ?_
  refine ca_widen (k := kc + 1) (n := ks + 6) (by omega) (by omega) ?_
  exact kk S2 μ2 ⟨hs', h34', rfl, rfl, rfl, hI2⟩
set_option maxHeartbeats 400000 in
theorem lw_c33 {X : ch_X} {E : ch_E} {b N : Nat} {xs : Nat → Int32} (K : lw_X X E b N xs) {i : Nat} (hi : 6 * i + 6 ≤ N) (hN : N ≤ 3072) {kc ks : Nat} (hkc : kc + 1 ≤ 601024 ∧ ks + 6 ≤ 7293034) {S : ch_S} {μ : ch_M} {xa ma oa : Nat} (hL : lw_S E S μ xa ma oa) (kk : ∀ S' μ', lw_S E S' μ' xa ma oa → ch_W X E 7 S' μ' (kc + 1) (ks + 6) 2444 [(0, .ref b), (1, .ref xa), (2, .ref ma), (3, .ref oa), (4, .int (nI (6 * i)))] []) : ch_W X E 7 S μ kc ks 2109 [(0, .ref b), (1, .ref xa), (2, .ref ma), (3, .ref oa), (4, .int (nI (6 * i)))] [] := by
  obtain ⟨h, hG, hX, hbl, hbA, hl⟩ := K
  obtain ⟨hs, h34, rfl, rfl, rfl, hI⟩ := hL
  obtain ⟨r, M, hX9, hM9⟩ := k_d_total (l := x_l X) hs hI (x1 := (xs (Int32.toNatClampNeg (nI (6 * i) + 1))))
  refine ca_aload_nr h dL_law_2109 rfl ?_
  refine ca_aload_nr h dL_law_2110 rfl ?_
  refine ca_iload h dL_law_2111 rfl ?_
  refine ca_iconst h dL_law_2113 ik_1 ?_
  refine ca_iadd h dL_law_2114 ?_
  refine ca_sld h hX hbl hbA (show vp_in (nI (6 * i) + nI 1) N from lw_in hi (by decide) hN) dL_law_2115 ?_
  refine ca_vi h hG ml_L_231 hX9 (ci := 11) rfl rfl rfl (hs.1 15 11 0 ⟨rfl, rfl⟩) rfl rfl rfl rfl ⟨by omega, by omega⟩ rfl dL_law_2116 ?_
  refine ca_aload_nr h dL_law_2119 rfl ?_
  refine ca_aload_nr h dL_law_2120 rfl ?_
  refine ca_iload h dL_law_2121 rfl ?_
  refine ca_iconst h dL_law_2123 ik_1 ?_
  refine ca_iadd h dL_law_2124 ?_
  refine ca_sld h hX hbl hbA (show vp_in (nI (6 * i) + nI 1) N from lw_in hi (by decide) hN) dL_law_2125 ?_
  refine ca_callV h hG ml_L_234 hM9 (ci := 12) (st := [.int r]) rfl rfl rfl (hs.1 16 22 0 ⟨rfl, rfl⟩) rfl rfl rfl rfl ⟨by omega, by omega⟩ (Nat.le_of_ble_eq_true rfl) dL_law_2126 ?_
  rintro v S2 μ2 ⟨rfl, rfl, hI2⟩
  show ch_W X E 7 S2 μ2 (kc + 0) (ks + 0) 2129 [(0, .ref b), (1, .ref (S2.1 15 11 0)), (2, .ref (S2.1 16 22 0)), (3, .ref (S2.1 17 34 0)), (4, .int (nI (6 * i)))] [.int r, .int r]
  refine ca_icmp_eq (tgt := 2444) h dL_law_2129 (by decide) (fun _ => ?_) (fun c9 => absurd rfl c9)
  refine ca_pick [0, 1, 2, 3, 4] rfl ?_
  refine ca_widen (k := kc + 1) (n := ks + 6) (by omega) (by omega) ?_
  exact kk S2 μ2 ⟨hs, h34, rfl, rfl, rfl, hI2⟩
set_option maxHeartbeats 400000 in
theorem lw_c34 {X : ch_X} {E : ch_E} {b N : Nat} {xs : Nat → Int32} (K : lw_X X E b N xs) {i : Nat} (hi : 6 * i + 6 ≤ N) (hN : N ≤ 3072) {kc ks : Nat} (hkc : kc + 1 ≤ 601024 ∧ ks + 6 ≤ 7293034) {S : ch_S} {μ : ch_M} {xa ma oa : Nat} (hL : lw_S E S μ xa ma oa) (kk : ∀ S' μ', lw_S E S' μ' xa ma oa → ch_W X E 7 S' μ' (kc + 1) (ks + 6) 2444 [(0, .ref b), (1, .ref xa), (2, .ref ma), (3, .ref oa), (4, .int (nI (6 * i)))] []) : ch_W X E 7 S μ kc ks 2134 [(0, .ref b), (1, .ref xa), (2, .ref ma), (3, .ref oa), (4, .int (nI (6 * i)))] [] := by
  obtain ⟨h, hG, hX, hbl, hbA, hl⟩ := K
  obtain ⟨hs, h34, rfl, rfl, rfl, hI⟩ := hL
  obtain ⟨k, M, dd, mc, ms, hd9, hmc, hms, hH, hR9⟩ := k_c_congestedTicks (l := x_l X) hl hs h34 hI (x1 := (xs (Int32.toNatClampNeg (nI (6 * i) + 1))))
  refine ca_aload_nr h dL_law_2134 rfl ?_
  refine ca_aload_nr h dL_law_2135 rfl ?_
  refine ca_iload h dL_law_2136 rfl ?_
  refine ca_iconst h dL_law_2138 ik_1 ?_
  refine ca_iadd h dL_law_2139 ?_
  refine ca_sld h hX hbl hbA (show vp_in (nI (6 * i) + nI 1) N from lw_in hi (by decide) hN) dL_law_2140 ?_
  refine ca_aload_nr h dL_law_2141 rfl ?_
  refine ca_callSW h hG kw_1189 kw_1190 kw_0 kw_1191 (n := 3) ⟨by decide, by decide, by decide +kernel⟩ hH (st := []) rfl rfl (lw_ble (by omega)) rfl ⟨by omega, by omega⟩ rfl dL_law_2142 ?_
  rintro v S' μ' ⟨rfl, hs', g, g2, rfl⟩
  show ch_W X E 7 S' μ' (kc + mc) (ks + ms) 2145 [(0, .ref b), (1, .ref (S.1 15 11 0)), (2, .ref (S.1 16 22 0)), (3, .ref (S.1 17 34 0)), (4, .int (nI (6 * i)))] [.int k]
  rw [← g 15 11 0 (by decide), ← g 16 22 0 (by decide), ← g 17 34 0 (by decide)] at kk ⊢
  have h34' := g2 17 34 0 h34
  refine ca_istore h dL_law_2145 rfl ?_
  refine ca_aload_nr h dL_law_2147 rfl ?_
  refine ca_aload_nr h dL_law_2148 rfl ?_
  refine ca_iload h dL_law_2149 rfl ?_
  refine ca_iconst h dL_law_2151 ik_1 ?_
  refine ca_iadd h dL_law_2152 ?_
  refine ca_sld h hX hbl hbA (show vp_in (nI (6 * i) + nI 1) N from lw_in hi (by decide) hN) dL_law_2153 ?_
  refine ca_callV h hG ml_L_237 (hR9 S' hs') (ci := 12) (st := []) rfl rfl rfl (hs'.1 16 22 0 ⟨rfl, rfl⟩) rfl rfl rfl rfl ⟨by omega, by omega⟩ (Nat.zero_le _) dL_law_2154 ?_
  rintro v S2 μ2 ⟨z, rfl, rfl, h6, hI2, hz, hzb⟩
  show ch_W X E 7 S2 μ2 (kc + mc + 0) (ks + ms + 0) 2157 [(5, .int k), (0, .ref b), (1, .ref (S2.1 15 11 0)), (2, .ref (S2.1 16 22 0)), (3, .ref (S2.1 17 34 0)), (4, .int (nI (6 * i)))] [.int z]
  have hs' := hs'
  refine ca_istore h dL_law_2157 rfl ?_
  refine ca_aload_nr h dL_law_2159 rfl ?_
  refine ca_vi h hG ml_L_126 (c_X12_thrown hs') (ci := 12) rfl rfl rfl (hs'.1 16 22 0 ⟨rfl, rfl⟩) rfl rfl rfl rfl ⟨by omega, by omega⟩ rfl dL_law_2160 ?_
  rw [h6]
  refine ca_iload h dL_law_2163 rfl ?_
  refine ca_icmp_eq (tgt := 2170) h dL_law_2165 (by decide) (fun _ => ?_) (fun c9 => absurd rfl c9)
  refine ca_iload h dL_law_2170 rfl ?_
  refine ca_if_ne (tgt := 2187) h dL_law_2172 (by decide) (fun ck => ?_) (fun ck => ?_)
  ·
    refine ca_goto (tgt := 2444) h dL_law_2187 (by decide) ?_
    refine ca_pick [2, 3, 4, 5, 6] rfl ?_
    refine ca_widen (k := kc + 1) (n := ks + 6) (by omega) (by omega) ?_
    exact kk S2 μ2 ⟨hs', h34', rfl, rfl, rfl, hI2⟩
  refine ca_aload_nr h dL_law_2175 rfl ?_
  refine ca_iconst h dL_law_2176 ik_0 ?_
  refine ca_lald h (k := 17) (kd := 34) (i := 0) (n := 1) rfl h34' rfl (show vp_in (nI 0) 1 from vp_in_nI (by decide) (by decide)) dL_law_2177 ?_
  refine ca_iload h dL_law_2178 rfl ?_
  refine ca_i2l h dL_law_2180 ?_
  refine ca_lcmp0 h (congrArg Int32.toInt64 (hz ck)) dL_law_2181 ?_
  refine ca_if_eq (tgt := 2187) h dL_law_2182 (by decide) (fun _ => ?_) (fun c9 => absurd rfl c9)
  refine ca_goto (tgt := 2444) h dL_law_2187 (by decide) ?_
  refine ca_pick [2, 3, 4, 5, 6] rfl ?_
  refine ca_widen (k := kc + 1) (n := ks + 6) (by omega) (by omega) ?_
  exact kk S2 μ2 ⟨hs', h34', rfl, rfl, rfl, hI2⟩
set_option maxHeartbeats 400000 in
theorem lw_c35 {X : ch_X} {E : ch_E} {b N : Nat} {xs : Nat → Int32} (K : lw_X X E b N xs) {i : Nat} (hi : 6 * i + 6 ≤ N) (hN : N ≤ 3072) {kc ks : Nat} (hkc : kc + 1 ≤ 601024 ∧ ks + 6 ≤ 7293034) {S : ch_S} {μ : ch_M} {xa ma oa : Nat} (hL : lw_S E S μ xa ma oa) (kk : ∀ S' μ', lw_S E S' μ' xa ma oa → ch_W X E 7 S' μ' (kc + 1) (ks + 6) 2444 [(0, .ref b), (1, .ref xa), (2, .ref ma), (3, .ref oa), (4, .int (nI (6 * i)))] []) : ch_W X E 7 S μ kc ks 2190 [(0, .ref b), (1, .ref xa), (2, .ref ma), (3, .ref oa), (4, .int (nI (6 * i)))] [] := by
  obtain ⟨h, hG, hX, hbl, hbA, hl⟩ := K
  obtain ⟨hs, h34, rfl, rfl, rfl, hI⟩ := hL
  obtain ⟨k, M, dd, mc, ms, hd9, hmc, hms, hH, hR9⟩ := k_c_forecastCell (l := x_l X) hl hs h34 hI (x1 := (xs (Int32.toNatClampNeg (nI (6 * i) + 1)))) (x2 := (xs (Int32.toNatClampNeg (nI (6 * i) + 2))))
  refine ca_aload_nr h dL_law_2190 rfl ?_
  refine ca_aload_nr h dL_law_2191 rfl ?_
  refine ca_iload h dL_law_2192 rfl ?_
  refine ca_iconst h dL_law_2194 ik_1 ?_
  refine ca_iadd h dL_law_2195 ?_
  refine ca_sld h hX hbl hbA (show vp_in (nI (6 * i) + nI 1) N from lw_in hi (by decide) hN) dL_law_2196 ?_
  refine ca_aload_nr h dL_law_2197 rfl ?_
  refine ca_iload h dL_law_2198 rfl ?_
  refine ca_iconst h dL_law_2200 ik_2 ?_
  refine ca_iadd h dL_law_2201 ?_
  refine ca_sld h hX hbl hbA (show vp_in (nI (6 * i) + nI 2) N from lw_in hi (by decide) hN) dL_law_2202 ?_
  refine ca_aload_nr h dL_law_2203 rfl ?_
  refine ca_callSW h hG kw_1196 kw_1197 kw_0 kw_1198 (n := 4) ⟨by decide, by decide, by decide +kernel⟩ hH (st := []) rfl rfl (lw_ble (by omega)) rfl ⟨by omega, by omega⟩ rfl dL_law_2204 ?_
  rintro v S' μ' ⟨rfl, hs', g, g2, rfl⟩
  show ch_W X E 7 S' μ' (kc + mc) (ks + ms) 2207 [(0, .ref b), (1, .ref (S.1 15 11 0)), (2, .ref (S.1 16 22 0)), (3, .ref (S.1 17 34 0)), (4, .int (nI (6 * i)))] [.int k]
  rw [← g 15 11 0 (by decide), ← g 16 22 0 (by decide), ← g 17 34 0 (by decide)] at kk ⊢
  have h34' := g2 17 34 0 h34
  refine ca_istore h dL_law_2207 rfl ?_
  refine ca_aload_nr h dL_law_2209 rfl ?_
  refine ca_aload_nr h dL_law_2210 rfl ?_
  refine ca_iload h dL_law_2211 rfl ?_
  refine ca_iconst h dL_law_2213 ik_1 ?_
  refine ca_iadd h dL_law_2214 ?_
  refine ca_sld h hX hbl hbA (show vp_in (nI (6 * i) + nI 1) N from lw_in hi (by decide) hN) dL_law_2215 ?_
  refine ca_aload_nr h dL_law_2216 rfl ?_
  refine ca_iload h dL_law_2217 rfl ?_
  refine ca_iconst h dL_law_2219 ik_2 ?_
  refine ca_iadd h dL_law_2220 ?_
  refine ca_sld h hX hbl hbA (show vp_in (nI (6 * i) + nI 2) N from lw_in hi (by decide) hN) dL_law_2221 ?_
  refine ca_callV h hG ml_L_240 (hR9 S' hs') (ci := 12) (st := []) rfl rfl rfl (hs'.1 16 22 0 ⟨rfl, rfl⟩) rfl rfl rfl rfl ⟨by omega, by omega⟩ (Nat.zero_le _) dL_law_2222 ?_
  rintro v S2 μ2 ⟨z, rfl, rfl, h6, hI2, hz, hzb⟩
  show ch_W X E 7 S2 μ2 (kc + mc + 0) (ks + ms + 0) 2225 [(5, .int k), (0, .ref b), (1, .ref (S2.1 15 11 0)), (2, .ref (S2.1 16 22 0)), (3, .ref (S2.1 17 34 0)), (4, .int (nI (6 * i)))] [.int z]
  have hs' := hs'
  refine ca_istore h dL_law_2225 rfl ?_
  refine ca_aload_nr h dL_law_2227 rfl ?_
  refine ca_vi h hG ml_L_126 (c_X12_thrown hs') (ci := 12) rfl rfl rfl (hs'.1 16 22 0 ⟨rfl, rfl⟩) rfl rfl rfl rfl ⟨by omega, by omega⟩ rfl dL_law_2228 ?_
  rw [h6]
  refine ca_iload h dL_law_2231 rfl ?_
  refine ca_icmp_eq (tgt := 2238) h dL_law_2233 (by decide) (fun _ => ?_) (fun c9 => absurd rfl c9)
  refine ca_iload h dL_law_2238 rfl ?_
  refine ca_if_ne (tgt := 2255) h dL_law_2240 (by decide) (fun ck => ?_) (fun ck => ?_)
  ·
    refine ca_goto (tgt := 2444) h dL_law_2255 (by decide) ?_
    refine ca_pick [2, 3, 4, 5, 6] rfl ?_
    refine ca_widen (k := kc + 1) (n := ks + 6) (by omega) (by omega) ?_
    exact kk S2 μ2 ⟨hs', h34', rfl, rfl, rfl, hI2⟩
  refine ca_aload_nr h dL_law_2243 rfl ?_
  refine ca_iconst h dL_law_2244 ik_0 ?_
  refine ca_lald h (k := 17) (kd := 34) (i := 0) (n := 1) rfl h34' rfl (show vp_in (nI 0) 1 from vp_in_nI (by decide) (by decide)) dL_law_2245 ?_
  refine ca_iload h dL_law_2246 rfl ?_
  refine ca_i2l h dL_law_2248 ?_
  refine ca_lcmp0 h (congrArg Int32.toInt64 (hz ck)) dL_law_2249 ?_
  refine ca_if_eq (tgt := 2255) h dL_law_2250 (by decide) (fun _ => ?_) (fun c9 => absurd rfl c9)
  refine ca_goto (tgt := 2444) h dL_law_2255 (by decide) ?_
  refine ca_pick [2, 3, 4, 5, 6] rfl ?_
  refine ca_widen (k := kc + 1) (n := ks + 6) (by omega) (by omega) ?_
  exact kk S2 μ2 ⟨hs', h34', rfl, rfl, rfl, hI2⟩
set_option maxHeartbeats 400000 in
theorem lw_c36 {X : ch_X} {E : ch_E} {b N : Nat} {xs : Nat → Int32} (K : lw_X X E b N xs) {i : Nat} (hi : 6 * i + 6 ≤ N) (hN : N ≤ 3072) {kc ks : Nat} (hkc : kc + 1 ≤ 601024 ∧ ks + 6 ≤ 7293034) {S : ch_S} {μ : ch_M} {xa ma oa : Nat} (hL : lw_S E S μ xa ma oa) (kk : ∀ S' μ', lw_S E S' μ' xa ma oa → ch_W X E 7 S' μ' (kc + 1) (ks + 6) 2444 [(0, .ref b), (1, .ref xa), (2, .ref ma), (3, .ref oa), (4, .int (nI (6 * i)))] []) : ch_W X E 7 S μ kc ks 2258 [(0, .ref b), (1, .ref xa), (2, .ref ma), (3, .ref oa), (4, .int (nI (6 * i)))] [] := by
  obtain ⟨h, hG, hX, hbl, hbA, hl⟩ := K
  obtain ⟨hs, h34, rfl, rfl, rfl, hI⟩ := hL
  obtain ⟨k, M, dd, mc, ms, hd9, hmc, hms, hH, hR9⟩ := k_c_bestHysteresis (l := x_l X) hl hs h34 hI (x1 := (xs (Int32.toNatClampNeg (nI (6 * i) + 1)))) (x2 := (xs (Int32.toNatClampNeg (nI (6 * i) + 2)))) (x3 := (xs (Int32.toNatClampNeg (nI (6 * i) + 3))))
  refine ca_aload_nr h dL_law_2258 rfl ?_
  refine ca_aload_nr h dL_law_2259 rfl ?_
  refine ca_iload h dL_law_2260 rfl ?_
  refine ca_iconst h dL_law_2262 ik_1 ?_
  refine ca_iadd h dL_law_2263 ?_
  refine ca_sld h hX hbl hbA (show vp_in (nI (6 * i) + nI 1) N from lw_in hi (by decide) hN) dL_law_2264 ?_
  refine ca_aload_nr h dL_law_2265 rfl ?_
  refine ca_iload h dL_law_2266 rfl ?_
  refine ca_iconst h dL_law_2268 ik_2 ?_
  refine ca_iadd h dL_law_2269 ?_
  refine ca_sld h hX hbl hbA (show vp_in (nI (6 * i) + nI 2) N from lw_in hi (by decide) hN) dL_law_2270 ?_
  refine ca_aload_nr h dL_law_2271 rfl ?_
  refine ca_iload h dL_law_2272 rfl ?_
  refine ca_iconst h dL_law_2274 ik_3 ?_
  refine ca_iadd h dL_law_2275 ?_
  refine ca_sld h hX hbl hbA (show vp_in (nI (6 * i) + nI 3) N from lw_in hi (by decide) hN) dL_law_2276 ?_
  refine ca_aload_nr h dL_law_2277 rfl ?_
  refine ca_callSW h hG kw_1203 kw_1204 kw_0 kw_1205 (n := 5) ⟨by decide, by decide, by decide +kernel⟩ hH (st := []) rfl rfl (lw_ble (by omega)) rfl ⟨by omega, by omega⟩ rfl dL_law_2278 ?_
  rintro v S' μ' ⟨rfl, hs', g, g2, rfl⟩
  show ch_W X E 7 S' μ' (kc + mc) (ks + ms) 2281 [(0, .ref b), (1, .ref (S.1 15 11 0)), (2, .ref (S.1 16 22 0)), (3, .ref (S.1 17 34 0)), (4, .int (nI (6 * i)))] [.int k]
  rw [← g 15 11 0 (by decide), ← g 16 22 0 (by decide), ← g 17 34 0 (by decide)] at kk ⊢
  have h34' := g2 17 34 0 h34
  refine ca_istore h dL_law_2281 rfl ?_
  refine ca_aload_nr h dL_law_2283 rfl ?_
  refine ca_aload_nr h dL_law_2284 rfl ?_
  refine ca_iload h dL_law_2285 rfl ?_
  refine ca_iconst h dL_law_2287 ik_1 ?_
  refine ca_iadd h dL_law_2288 ?_
  refine ca_sld h hX hbl hbA (show vp_in (nI (6 * i) + nI 1) N from lw_in hi (by decide) hN) dL_law_2289 ?_
  refine ca_aload_nr h dL_law_2290 rfl ?_
  refine ca_iload h dL_law_2291 rfl ?_
  refine ca_iconst h dL_law_2293 ik_2 ?_
  refine ca_iadd h dL_law_2294 ?_
  refine ca_sld h hX hbl hbA (show vp_in (nI (6 * i) + nI 2) N from lw_in hi (by decide) hN) dL_law_2295 ?_
  refine ca_aload_nr h dL_law_2296 rfl ?_
  refine ca_iload h dL_law_2297 rfl ?_
  refine ca_iconst h dL_law_2299 ik_3 ?_
  refine ca_iadd h dL_law_2300 ?_
  refine ca_sld h hX hbl hbA (show vp_in (nI (6 * i) + nI 3) N from lw_in hi (by decide) hN) dL_law_2301 ?_
  refine ca_callV h hG ml_L_243 (hR9 S' hs') (ci := 12) (st := []) rfl rfl rfl (hs'.1 16 22 0 ⟨rfl, rfl⟩) rfl rfl rfl rfl ⟨by omega, by omega⟩ (Nat.zero_le _) dL_law_2302 ?_
  rintro v S2 μ2 ⟨z, rfl, rfl, h6, hI2, hz, hzb⟩
  show ch_W X E 7 S2 μ2 (kc + mc + 0) (ks + ms + 0) 2305 [(5, .int k), (0, .ref b), (1, .ref (S2.1 15 11 0)), (2, .ref (S2.1 16 22 0)), (3, .ref (S2.1 17 34 0)), (4, .int (nI (6 * i)))] [.int z]
  have hs' := hs'
  refine ca_istore h dL_law_2305 rfl ?_
  refine ca_aload_nr h dL_law_2307 rfl ?_
  refine ca_vi h hG ml_L_126 (c_X12_thrown hs') (ci := 12) rfl rfl rfl (hs'.1 16 22 0 ⟨rfl, rfl⟩) rfl rfl rfl rfl ⟨by omega, by omega⟩ rfl dL_law_2308 ?_
  rw [h6]
  refine ca_iload h dL_law_2311 rfl ?_
  refine ca_icmp_eq (tgt := 2318) h dL_law_2313 (by decide) (fun _ => ?_) (fun c9 => absurd rfl c9)
  refine ca_iload h dL_law_2318 rfl ?_
  refine ca_if_ne (tgt := 2335) h dL_law_2320 (by decide) (fun ck => ?_) (fun ck => ?_)
  ·
    refine ca_goto (tgt := 2444) h dL_law_2335 (by decide) ?_
    refine ca_pick [2, 3, 4, 5, 6] rfl ?_
    refine ca_widen (k := kc + 1) (n := ks + 6) (by omega) (by omega) ?_
    exact kk S2 μ2 ⟨hs', h34', rfl, rfl, rfl, hI2⟩
  refine ca_aload_nr h dL_law_2323 rfl ?_
  refine ca_iconst h dL_law_2324 ik_0 ?_
  refine ca_lald h (k := 17) (kd := 34) (i := 0) (n := 1) rfl h34' rfl (show vp_in (nI 0) 1 from vp_in_nI (by decide) (by decide)) dL_law_2325 ?_
  refine ca_iload h dL_law_2326 rfl ?_
  refine ca_i2l h dL_law_2328 ?_
  refine ca_lcmp0 h (congrArg Int32.toInt64 (hz ck)) dL_law_2329 ?_
  refine ca_if_eq (tgt := 2335) h dL_law_2330 (by decide) (fun _ => ?_) (fun c9 => absurd rfl c9)
  refine ca_goto (tgt := 2444) h dL_law_2335 (by decide) ?_
  refine ca_pick [2, 3, 4, 5, 6] rfl ?_
  refine ca_widen (k := kc + 1) (n := ks + 6) (by omega) (by omega) ?_
  exact kk S2 μ2 ⟨hs', h34', rfl, rfl, rfl, hI2⟩
set_option maxHeartbeats 400000 in
theorem lw_c37 {X : ch_X} {E : ch_E} {b N : Nat} {xs : Nat → Int32} (K : lw_X X E b N xs) {i : Nat} (hi : 6 * i + 6 ≤ N) (hN : N ≤ 3072) {kc ks : Nat} (hkc : kc + 1 ≤ 601024 ∧ ks + 6 ≤ 7293034) {S : ch_S} {μ : ch_M} {xa ma oa : Nat} (hL : lw_S E S μ xa ma oa) (kk : ∀ S' μ', lw_S E S' μ' xa ma oa → ch_W X E 7 S' μ' (kc + 1) (ks + 6) 2444 [(0, .ref b), (1, .ref xa), (2, .ref ma), (3, .ref oa), (4, .int (nI (6 * i)))] []) : ch_W X E 7 S μ kc ks 2338 [(0, .ref b), (1, .ref xa), (2, .ref ma), (3, .ref oa), (4, .int (nI (6 * i)))] [] := by
  obtain ⟨h, hG, hX, hbl, hbA, hl⟩ := K
  obtain ⟨hs, h34, rfl, rfl, rfl, hI⟩ := hL
  obtain ⟨r, M, hX9, hM9⟩ := k_d_undoCount (l := x_l X) hs hI
  refine ca_aload_nr h dL_law_2338 rfl ?_
  refine ca_vi h hG ml_L_244 hX9 (ci := 11) rfl rfl rfl (hs.1 15 11 0 ⟨rfl, rfl⟩) rfl rfl rfl rfl ⟨by omega, by omega⟩ rfl dL_law_2339 ?_
  refine ca_aload_nr h dL_law_2342 rfl ?_
  refine ca_callV h hG ml_L_247 hM9 (ci := 12) (st := [.int r]) rfl rfl rfl (hs.1 16 22 0 ⟨rfl, rfl⟩) rfl rfl rfl rfl ⟨by omega, by omega⟩ (Nat.le_of_ble_eq_true rfl) dL_law_2343 ?_
  rintro v S2 μ2 ⟨rfl, rfl, hI2⟩
  show ch_W X E 7 S2 μ2 (kc + 0) (ks + 0) 2346 [(0, .ref b), (1, .ref (S2.1 15 11 0)), (2, .ref (S2.1 16 22 0)), (3, .ref (S2.1 17 34 0)), (4, .int (nI (6 * i)))] [.int r, .int r]
  refine ca_icmp_eq (tgt := 2444) h dL_law_2346 (by decide) (fun _ => ?_) (fun c9 => absurd rfl c9)
  refine ca_pick [0, 1, 2, 3, 4] rfl ?_
  refine ca_widen (k := kc + 1) (n := ks + 6) (by omega) (by omega) ?_
  exact kk S2 μ2 ⟨hs, h34, rfl, rfl, rfl, hI2⟩
set_option maxHeartbeats 400000 in
theorem lw_c38 {X : ch_X} {E : ch_E} {b N : Nat} {xs : Nat → Int32} (K : lw_X X E b N xs) {i : Nat} (hi : 6 * i + 6 ≤ N) (hN : N ≤ 3072) {kc ks : Nat} (hkc : kc + 1 ≤ 601024 ∧ ks + 6 ≤ 7293034) {S : ch_S} {μ : ch_M} {xa ma oa : Nat} (hL : lw_S E S μ xa ma oa) (kk : ∀ S' μ', lw_S E S' μ' xa ma oa → ch_W X E 7 S' μ' (kc + 1) (ks + 6) 2444 [(0, .ref b), (1, .ref xa), (2, .ref ma), (3, .ref oa), (4, .int (nI (6 * i)))] []) : ch_W X E 7 S μ kc ks 2351 [(0, .ref b), (1, .ref xa), (2, .ref ma), (3, .ref oa), (4, .int (nI (6 * i)))] [] := by
  obtain ⟨h, hG, hX, hbl, hbA, hl⟩ := K
  obtain ⟨hs, h34, rfl, rfl, rfl, hI⟩ := hL
  obtain ⟨r, M, hX9, hM9⟩ := k_d_undo (l := x_l X) hs hI
  refine ca_aload_nr h dL_law_2351 rfl ?_
  refine ca_vi h hG ml_L_248 hX9 (ci := 11) rfl rfl rfl (hs.1 15 11 0 ⟨rfl, rfl⟩) rfl rfl rfl rfl ⟨by omega, by omega⟩ rfl dL_law_2352 ?_
  refine ca_aload_nr h dL_law_2355 rfl ?_
  refine ca_callV h hG ml_L_251 hM9 (ci := 12) (st := [.int r]) rfl rfl rfl (hs.1 16 22 0 ⟨rfl, rfl⟩) rfl rfl rfl rfl ⟨by omega, by omega⟩ (Nat.le_of_ble_eq_true rfl) dL_law_2356 ?_
  rintro v S2 μ2 ⟨rfl, rfl, hI2⟩
  show ch_W X E 7 S2 μ2 (kc + 0) (ks + 0) 2359 [(0, .ref b), (1, .ref (S2.1 15 11 0)), (2, .ref (S2.1 16 22 0)), (3, .ref (S2.1 17 34 0)), (4, .int (nI (6 * i)))] [.int r, .int r]
  refine ca_icmp_eq (tgt := 2444) h dL_law_2359 (by decide) (fun _ => ?_) (fun c9 => absurd rfl c9)
  refine ca_pick [0, 1, 2, 3, 4] rfl ?_
  refine ca_widen (k := kc + 1) (n := ks + 6) (by omega) (by omega) ?_
  exact kk S2 μ2 ⟨hs, h34, rfl, rfl, rfl, hI2⟩
set_option maxHeartbeats 400000 in
theorem lw_c39 {X : ch_X} {E : ch_E} {b N : Nat} {xs : Nat → Int32} (K : lw_X X E b N xs) {i : Nat} (hi : 6 * i + 6 ≤ N) (hN : N ≤ 3072) {kc ks : Nat} (hkc : kc + 1 ≤ 601024 ∧ ks + 6 ≤ 7293034) {S : ch_S} {μ : ch_M} {xa ma oa : Nat} (hL : lw_S E S μ xa ma oa) (kk : ∀ S' μ', lw_S E S' μ' xa ma oa → ch_W X E 7 S' μ' (kc + 1) (ks + 6) 2444 [(0, .ref b), (1, .ref xa), (2, .ref ma), (3, .ref oa), (4, .int (nI (6 * i)))] []) : ch_W X E 7 S μ kc ks 2364 [(0, .ref b), (1, .ref xa), (2, .ref ma), (3, .ref oa), (4, .int (nI (6 * i)))] [] := by
  obtain ⟨h, hG, hX, hbl, hbA, hl⟩ := K
  obtain ⟨hs, h34, rfl, rfl, rfl, hI⟩ := hL
  obtain ⟨M, hX9, hM9⟩ := k_d_saveSnapshot (l := x_l X) hs hI
  refine ca_aload_nr h dL_law_2364 rfl ?_
  refine ca_vv h hG ml_L_252 hX9 (ci := 11) rfl rfl rfl (hs.1 15 11 0 ⟨rfl, rfl⟩) rfl rfl rfl rfl ⟨by omega, by omega⟩ rfl dL_law_2365 ?_
  refine ca_aload_nr h dL_law_2368 rfl ?_
  refine ca_callV h hG ml_L_255 hM9 (ci := 12) (st := []) rfl rfl rfl (hs.1 16 22 0 ⟨rfl, rfl⟩) rfl rfl rfl rfl ⟨by omega, by omega⟩ (Nat.le_of_ble_eq_true rfl) dL_law_2369 ?_
  rintro v S2 μ2 ⟨rfl, rfl, hI2⟩
  show ch_W X E 7 S2 μ2 (kc + 0) (ks + 0) 2372 [(0, .ref b), (1, .ref (S2.1 15 11 0)), (2, .ref (S2.1 16 22 0)), (3, .ref (S2.1 17 34 0)), (4, .int (nI (6 * i)))] []
  refine ca_goto (tgt := 2444) h dL_law_2372 (by decide) ?_
  refine ca_pick [0, 1, 2, 3, 4] rfl ?_
  refine ca_widen (k := kc + 1) (n := ks + 6) (by omega) (by omega) ?_
  exact kk S2 μ2 ⟨hs, h34, rfl, rfl, rfl, hI2⟩
set_option maxHeartbeats 400000 in
theorem lw_c40 {X : ch_X} {E : ch_E} {b N : Nat} {xs : Nat → Int32} (K : lw_X X E b N xs) {i : Nat} (hi : 6 * i + 6 ≤ N) (hN : N ≤ 3072) {kc ks : Nat} (hkc : kc + 1 ≤ 601024 ∧ ks + 6 ≤ 7293034) {S : ch_S} {μ : ch_M} {xa ma oa : Nat} (hL : lw_S E S μ xa ma oa) (kk : ∀ S' μ', lw_S E S' μ' xa ma oa → ch_W X E 7 S' μ' (kc + 1) (ks + 6) 2444 [(0, .ref b), (1, .ref xa), (2, .ref ma), (3, .ref oa), (4, .int (nI (6 * i)))] []) : ch_W X E 7 S μ kc ks 2375 [(0, .ref b), (1, .ref xa), (2, .ref ma), (3, .ref oa), (4, .int (nI (6 * i)))] [] := by
  obtain ⟨h, hG, hX, hbl, hbA, hl⟩ := K
  obtain ⟨hs, h34, rfl, rfl, rfl, hI⟩ := hL
  obtain ⟨r, M, hX9, hM9⟩ := k_d_restoreSnapshot (l := x_l X) hs hI
  refine ca_aload_nr h dL_law_2375 rfl ?_
  refine ca_vi h hG ml_L_256 hX9 (ci := 11) rfl rfl rfl (hs.1 15 11 0 ⟨rfl, rfl⟩) rfl rfl rfl rfl ⟨by omega, by omega⟩ rfl dL_law_2376 ?_
  refine ca_aload_nr h dL_law_2379 rfl ?_
  refine ca_callV h hG ml_L_260 hM9 (ci := 12) (st := [.int r]) rfl rfl rfl (hs.1 16 22 0 ⟨rfl, rfl⟩) rfl rfl rfl rfl ⟨by omega, by omega⟩ (Nat.le_of_ble_eq_true rfl) dL_law_2380 ?_
  rintro v S2 μ2 ⟨rfl, rfl, hI2⟩
  show ch_W X E 7 S2 μ2 (kc + 0) (ks + 0) 2383 [(0, .ref b), (1, .ref (S2.1 15 11 0)), (2, .ref (S2.1 16 22 0)), (3, .ref (S2.1 17 34 0)), (4, .int (nI (6 * i)))] [.int r, .int r]
  refine ca_icmp_eq (tgt := 2444) h dL_law_2383 (by decide) (fun _ => ?_) (fun c9 => absurd rfl c9)
  refine ca_pick [0, 1, 2, 3, 4] rfl ?_
  refine ca_widen (k := kc + 1) (n := ks + 6) (by omega) (by omega) ?_
  exact kk S2 μ2 ⟨hs, h34, rfl, rfl, rfl, hI2⟩
set_option maxHeartbeats 400000 in
theorem lw_c41 {X : ch_X} {E : ch_E} {b N : Nat} {xs : Nat → Int32} (K : lw_X X E b N xs) {i : Nat} (hi : 6 * i + 6 ≤ N) (hN : N ≤ 3072) {kc ks : Nat} (hkc : kc + 1 ≤ 601024 ∧ ks + 6 ≤ 7293034) {S : ch_S} {μ : ch_M} {xa ma oa : Nat} (hL : lw_S E S μ xa ma oa) (kk : ∀ S' μ', lw_S E S' μ' xa ma oa → ch_W X E 7 S' μ' (kc + 1) (ks + 6) 2444 [(0, .ref b), (1, .ref xa), (2, .ref ma), (3, .ref oa), (4, .int (nI (6 * i)))] []) : ch_W X E 7 S μ kc ks 2388 [(0, .ref b), (1, .ref xa), (2, .ref ma), (3, .ref oa), (4, .int (nI (6 * i)))] [] := by
  obtain ⟨h, hG, hX, hbl, hbA, hl⟩ := K
  obtain ⟨hs, h34, rfl, rfl, rfl, hI⟩ := hL
  obtain ⟨k, M, dd, mc, ms, hd9, hmc, hms, hH, hR9⟩ := k_c_query (l := x_l X) hl hs h34 hI (x1 := (xs (Int32.toNatClampNeg (nI (6 * i) + 1))))
  refine ca_aload_nr h dL_law_2388 rfl ?_
  refine ca_aload_nr h dL_law_2389 rfl ?_
  refine ca_iload h dL_law_2390 rfl ?_
  refine ca_iconst h dL_law_2392 ik_1 ?_
  refine ca_iadd h dL_law_2393 ?_
  refine ca_sld h hX hbl hbA (show vp_in (nI (6 * i) + nI 1) N from lw_in hi (by decide) hN) dL_law_2394 ?_
  refine ca_aload_nr h dL_law_2395 rfl ?_
  refine ca_callSW h hG kw_1210 kw_1211 kw_0 kw_1212 (n := 3) ⟨by decide, by decide, by decide +kernel⟩ hH (st := []) rfl rfl (lw_ble (by omega)) rfl ⟨by omega, by omega⟩ rfl dL_law_2396 ?_
  rintro v S' μ' ⟨rfl, hs', g, g2, rfl⟩
  show ch_W X E 7 S' μ' (kc + mc) (ks + ms) 2399 [(0, .ref b), (1, .ref (S.1 15 11 0)), (2, .ref (S.1 16 22 0)), (3, .ref (S.1 17 34 0)), (4, .int (nI (6 * i)))] [.int k]
  rw [← g 15 11 0 (by decide), ← g 16 22 0 (by decide), ← g 17 34 0 (by decide)] at kk ⊢
  have h34' := g2 17 34 0 h34
  refine ca_istore h dL_law_2399 rfl ?_
  refine ca_aload_nr h dL_law_2401 rfl ?_
  refine ca_aload_nr h dL_law_2402 rfl ?_
  refine ca_iload h dL_law_2403 rfl ?_
  refine ca_iconst h dL_law_2405 ik_1 ?_
  refine ca_iadd h dL_law_2406 ?_
  refine ca_sld h hX hbl hbA (show vp_in (nI (6 * i) + nI 1) N from lw_in hi (by decide) hN) dL_law_2407 ?_
  refine ca_callV h hG ml_L_263 (hR9 S' hs') (ci := 12) (st := []) rfl rfl rfl (hs'.1 16 22 0 ⟨rfl, rfl⟩) rfl rfl rfl rfl ⟨by omega, by omega⟩ (Nat.zero_le _) dL_law_2408 ?_
  rintro v S2 μ2 ⟨z, rfl, rfl, h6, hI2, hz, hzb⟩
  show ch_W X E 7 S2 μ2 (kc + mc + 0) (ks + ms + 0) 2411 [(5, .int k), (0, .ref b), (1, .ref (S2.1 15 11 0)), (2, .ref (S2.1 16 22 0)), (3, .ref (S2.1 17 34 0)), (4, .int (nI (6 * i)))] [.int z]
  have hs' := hs'
  refine ca_istore h dL_law_2411 rfl ?_
  refine ca_aload_nr h dL_law_2413 rfl ?_
  refine ca_vi h hG ml_L_126 (c_X12_thrown hs') (ci := 12) rfl rfl rfl (hs'.1 16 22 0 ⟨rfl, rfl⟩) rfl rfl rfl rfl ⟨by omega, by omega⟩ rfl dL_law_2414 ?_
  rw [h6]
  refine ca_iload h dL_law_2417 rfl ?_
  refine ca_icmp_eq (tgt := 2424) h dL_law_2419 (by decide) (fun _ => ?_) (fun c9 => absurd rfl c9)
  refine ca_iload h dL_law_2424 rfl ?_
  refine ca_if_ne (tgt := 2441) h dL_law_2426 (by decide) (fun ck => ?_) (fun ck => ?_)
  ·
    refine ca_goto (tgt := 2444) h dL_law_2441 (by decide) ?_
    refine ca_pick [2, 3, 4, 5, 6] rfl ?_
    refine ca_widen (k := kc + 1) (n := ks + 6) (by omega) (by omega) ?_
    exact kk S2 μ2 ⟨hs', h34', rfl, rfl, rfl, hI2⟩
  refine ca_aload_nr h dL_law_2429 rfl ?_
  refine ca_iconst h dL_law_2430 ik_0 ?_
  refine ca_lald h (k := 17) (kd := 34) (i := 0) (n := 1) rfl h34' rfl (show vp_in (nI 0) 1 from vp_in_nI (by decide) (by decide)) dL_law_2431 ?_
  refine ca_iload h dL_law_2432 rfl ?_
  refine ca_i2l h dL_law_2434 ?_
  refine ca_lcmp0 h (congrArg Int32.toInt64 (hz ck)) dL_law_2435 ?_
  refine ca_if_eq (tgt := 2441) h dL_law_2436 (by decide) (fun _ => ?_) (fun c9 => absurd rfl c9)
  refine ca_goto (tgt := 2444) h dL_law_2441 (by decide) ?_
  refine ca_pick [2, 3, 4, 5, 6] rfl ?_
  refine ca_widen (k := kc + 1) (n := ks + 6) (by omega) (by omega) ?_
  exact kk S2 μ2 ⟨hs', h34', rfl, rfl, rfl, hI2⟩
