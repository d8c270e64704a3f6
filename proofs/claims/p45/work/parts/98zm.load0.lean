/-! THE DRAWN NETWORK, loaded -/
def o_LD (C : Nat) (cv : Nat → Nat → Nat) (hy : Nat → Nat → Int32) (sv : Nat → Nat) (n : ch_N) : Prop :=
  (n 0 0 0 = nI C ∧ n 0 0 1 = nI (p_pa hy C C).length ∧ n 0 0 2 = 0 ∧ n 0 0 3 = 0) ∧ (∀ j, j < 6 → n 0 0 (4 + j) = nI (sv j)) ∧ (∀ c f, c < C → f < 8 → n 1 c f = nI (cv c f)) ∧ (∀ c, c < C → n 1 c 8 = 0) ∧
  (∀ a b f, a < 8 → b < 8 → f < 4 → n 2 (8 * a + b) f = if f = 0 then (if hy a b < 0 then 0 else 1) else if f = 1 then (if hy a b < 0 then 0 else hy a b) else 0) ∧ n 7 0 = fun _ => 0
theorem LD_ag {C : Nat} {cv : Nat → Nat → Nat} {hy : Nat → Nat → Int32} {sv : Nat → Nat} {n N : ch_N} (h : k_ag n N) (hC : C ≤ 8) (g : o_LD C cv hy sv N) : o_LD C cv hy sv n := by
  obtain ⟨⟨g0, g1, g2, g3⟩, g4, g5, g6, g7, g8⟩ := g
  exact ⟨⟨by rw [ag_0 h (by decide)]; exact g0, by rw [ag_0 h (by decide)]; exact g1, by rw [ag_0 h (by decide)]; exact g2, by rw [ag_0 h (by decide)]; exact g3⟩, fun j hj => by rw [ag_0 h (by omega)]; exact g4 j hj, fun c f hc hf => by rw [ag_1 h (by omega) (by omega)]; exact g5 c f hc hf, fun c hc => by rw [ag_1 h (by omega) (by omega)]; exact g6 c hc, fun a b f ha hb hf => by rw [ag_2 h (by omega) hf]; exact g7 a b f ha hb hf, by rw [h.2.2.2.2.2]; exact g8⟩
theorem clear_0 (n : ch_N) {j : Nat} (h : j < 4) : k_clear n 0 0 j = 0 := by
  unfold k_clear
  rw [na_k (by decide)]
  unfold k_clrR
  rw [if_neg (by omega)]
  unfold k_dfl
  rcases (show j = 0 ∨ j = 1 ∨ j = 2 ∨ j = 3 by omega) with rfl | rfl | rfl | rfl <;> simp [nw_at]
theorem clear_2 (n : ch_N) {r f : Nat} (hr : r < 64) (hf : f < 4) : k_clear n 2 r f = 0 := by
  unfold k_clear
  rw [na_k (by decide)]
  unfold k_clrR
  rw [if_pos ⟨rfl, hr, hf⟩]
theorem clear_7 (n : ch_N) : k_clear n 7 0 = fun _ => 0 := by
  unfold k_clear
  funext j
  rw [na_at, if_pos ⟨rfl, rfl⟩]
section LD
variable {C : Nat} {cv : Nat → Nat → Nat} {hy : Nat → Nat → Int32} {sv : Nat → Nat} {n : ch_N}
theorem hyk_d (hk : o_hyk C hy) (a : Nat) : hy a a = -1 := by
  rcases hk a a with h | h
  · exact h
  · exact absurd rfl h.2.2.1
theorem pa_20 (hC : C ≤ 5) (hk : o_hyk C hy) : (p_pa hy C C).length ≤ 20 := by
  have := p_pa_l (C := C) (hyk_d hk) C (Nat.le_refl _)
  rcases (show C = 0 ∨ C = 1 ∨ C = 2 ∨ C = 3 ∨ C = 4 ∨ C = 5 by omega) with rfl | rfl | rfl | rfl | rfl | rfl <;> omega
theorem pa_mem (hk : o_hyk C hy) (a b : Nat) : (a, b) ∈ p_pa hy C C ↔ ¬ hy a b < 0 := by
  rw [p_pa_m]
  constructor
  · exact fun h => h.2.2
  · intro h
    rcases hk a b with z | z
    · rw [z] at h; exact absurd (by decide) h
    · exact ⟨z.1, z.2.1, h⟩
theorem p_all_run (hC : C ≤ 5) (hb : ∀ c, p_b8 (cv c)) (hk : o_hyk C hy) (h6 : p_b6 sv) (n : ch_N) : p_oks (p_all cv hy sv C) (k_clear n) ∧ o_LD C cv hy sv (p_run (p_all cv hy sv C) (k_clear n)) ∧ ∀ kd, 3 ≤ kd → kd ≠ 7 → p_run (p_all cv hy sv C) (k_clear n) kd = n kd := by
  obtain ⟨a1, a2, a3, a4, a5, a6⟩ := p_cs_run hb (clear_0 n (j := 0) (by decide)) C (by omega)
  have hl := pa_20 hC hk
  have e2 : ∀ r f, r < 64 → f < 4 → p_run (p_cs cv C) (k_clear n) 2 r f = 0 := fun r f hr hf => by rw [a6 2 (by decide)]; exact clear_2 n hr hf
  obtain ⟨b1, b2, b3, b4, b5⟩ := p_rl_run (by omega) hk (p_pa hy C C) (p_run (p_cs cv C) (k_clear n)) 0 (p_pa_n C) (fun x hx => by
    obtain ⟨y1, y2, y3⟩ := (p_pa_m (hy := hy) (C := C) x C).mp hx
    exact ⟨y1, y2, y3, e2 _ _ (by omega) (by decide)⟩) a2 (by rw [a5 1 (by decide)]; exact clear_0 n (by decide)) (by omega)
  have er : p_run (p_all cv hy sv C) (k_clear n) = p_st 0 0 4 (p_v6 sv) (p_run ((p_pa hy C C).map (p_rl hy)) (p_run (p_cs cv C) (k_clear n))) := by
    unfold p_all
    rw [p_run_app, p_run_app]
    rfl
  refine ⟨?_, ?_, fun kd h3 h7 => ?_⟩
  · unfold p_all
    exact p_oks_app _ _ _ a1 (p_oks_app _ _ _ b1 ⟨Or.inr (Or.inr ⟨rfl, sv, rfl, h6⟩), trivial⟩)
  · rw [er]
    have el : (p_v6 sv).length = 6 := rfl
    refine ⟨⟨?_, ?_, ?_, ?_⟩, fun j hj => ?_, fun c f hc hf => ?_, fun c hc => ?_, fun a b f ha hb' hf => ?_, ?_⟩
    · rw [p_st_at, if_neg (by omega), b4 0 (by decide)]; exact a2
    · rw [p_st_at, if_neg (by omega), b2, Nat.zero_add]
    · rw [p_st_at, if_neg (by omega), b4 2 (by decide), a5 2 (by decide)]; exact clear_0 n (by decide)
    · rw [p_st_at, if_neg (by omega), b4 3 (by decide), a5 3 (by decide)]; exact clear_0 n (by decide)
    · rw [p_st_at, el, if_pos ⟨rfl, rfl, by omega, by omega⟩, show 4 + j - 4 = j by omega]
      rcases (show j = 0 ∨ j = 1 ∨ j = 2 ∨ j = 3 ∨ j = 4 ∨ j = 5 by omega) with rfl | rfl | rfl | rfl | rfl | rfl <;> rfl
    · rw [p_st_ne (by decide), b5 1 (by decide) (by decide)]; exact a3 c f hc hf
    · rw [p_st_ne (by decide), b5 1 (by decide) (by decide)]; exact a4 c hc
    · rw [p_st_ne (by decide), b3 a b f ha hb', e2 _ _ (by omega) hf]
      simp only [pa_mem hk]
      by_cases c0 : f = 0
      · subst c0
        by_cases c : hy a b < 0
        · simp [c]
        · simp [c]
      · by_cases c1 : f = 1
        · subst c1
          by_cases c : hy a b < 0
          · simp [c]
          · simp [c]
        · rw [if_neg (fun z => c0 z.2), if_neg (fun z => c1 z.2), if_neg c0, if_neg c1]
    · rw [p_st_ne (by decide), b5 7 (by decide) (by decide), a6 7 (by decide)]; exact clear_7 n
  · rw [er, p_st_ne (by omega), b5 kd (by omega) (by omega), a6 kd (by omega)]; exact k_clear_k h3 h7
/-- the row that stands for it -/
def o_gw (n : ch_N) (l : List (Nat × Nat)) (j : Nat) : Int32 :=
  if j < 10 then n 0 0 j else if j < 18 then n 7 0 (j - 10) else if j < 90 then n 1 ((j - 18) / 9) ((j - 18) % 9)
  else if (j - 90) % 5 = 0 then nI (l.getD ((j - 90) / 5) (0, 0)).1 else if (j - 90) % 5 = 1 then nI (l.getD ((j - 90) / 5) (0, 0)).2
  else n 2 (8 * (l.getD ((j - 90) / 5) (0, 0)).1 + (l.getD ((j - 90) / 5) (0, 0)).2) ((j - 90) % 5 - 1)
theorem gd_P {l : List (Nat × Nat)} {r : Nat} (h : r < l.length) : l.getD r (0, 0) ∈ l := by
  rw [List.getD_eq_getElem?_getD, List.getElem?_eq_getElem h]
  exact List.getElem_mem h
theorem gd_E {l : List (Nat × Nat)} {x : Nat × Nat} (h : x ∈ l) : ∃ r, r < l.length ∧ l.getD r (0, 0) = x := by
  obtain ⟨r, hr, e⟩ := List.getElem_of_mem h
  exact ⟨r, hr, by rw [List.getD_eq_getElem?_getD, List.getElem?_eq_getElem hr]; exact e⟩
theorem gd_N {l : List (Nat × Nat)} (hn : l.Nodup) {r t : Nat} (hr : r < l.length) (ht : t < l.length) (e : l.getD r (0, 0) = l.getD t (0, 0)) : r = t := by
  rw [List.getD_eq_getElem?_getD, List.getElem?_eq_getElem hr, List.getD_eq_getElem?_getD, List.getElem?_eq_getElem ht] at e
  have e' : l[r] = l[t] := e
  have hp := List.pairwise_iff_getElem.mp hn
  rcases Nat.lt_trichotomy r t with z | z | z
  · exact absurd e' (hp r t hr ht z)
  · exact z
  · exact absurd e'.symm (hp t r ht hr z)
theorem LD_cc (h : o_LD C cv hy sv n) (hC : C ≤ 5) : k_cc n = C := by unfold k_cc; rw [h.1.1, nI_clamp (by omega)]
theorem LD_mc (h : o_LD C cv hy sv n) : k_mc n = 0 := by unfold k_mc; rw [h.1.2.2.1]; rfl
theorem LD_wf (h : o_LD C cv hy sv n) (hC : C ≤ 5) (h6 : p_b6 sv) (hc : k_c8 n) : k_wf n := by
  have e4 := h.2.1 0 (by decide)
  obtain ⟨⟨b0, b0'⟩, -⟩ := h6
  unfold k_wf
  rw [LD_mc h, LD_cc h hC, show n 0 0 4 = nI (sv 0) from e4, nI_clamp (by omega)]
  exact ⟨by omega, by omega, nI_pos (by omega), b0, b0', fun i c hi hc' => ⟨(hc i c hi hc').1, (hc i c hi hc').2, fun z => absurd z (Nat.not_lt_zero _)⟩⟩
theorem LD_rN (h : o_LD C cv hy sv n) (hC : C ≤ 5) (hb : ∀ c, p_b8 (cv c)) (hk : o_hyk C hy) (h6 : p_b6 sv) (hc : k_c8 n) : r_N n (o_gw n (p_pa hy C C)) := by
  have hl := pa_20 hC hk
  have ecc := LD_cc h hC
  have emc := LD_mc h
  have w1 : o_gw n (p_pa hy C C) 1 = nI (p_pa hy C C).length := by unfold o_gw; rw [if_pos (by decide)]; exact h.1.2.1
  have wr : ∀ r f, f < 5 → o_gw n (p_pa hy C C) (90 + 5 * r + f) = if f = 0 then nI ((p_pa hy C C).getD r (0, 0)).1 else if f = 1 then nI ((p_pa hy C C).getD r (0, 0)).2 else n 2 (8 * ((p_pa hy C C).getD r (0, 0)).1 + ((p_pa hy C C).getD r (0, 0)).2) (f - 1) := fun r f hf => by
    unfold o_gw
    rw [if_neg (by omega), if_neg (by omega), if_neg (by omega), show (90 + 5 * r + f - 90) % 5 = f by omega, show (90 + 5 * r + f - 90) / 5 = r by omega]
  refine ⟨fun j hj => if_pos hj, ⟨fun t ht => ?_, ?_⟩, fun c f hc' hf => ?_, ?_, fun m hm => absurd hm (by omega), LD_wf h hC h6 hc⟩
  · unfold o_gw
    rw [if_neg (by omega), if_pos (by omega), show 10 + t - 10 = t by omega]
  · refine ⟨⟨by rw [h.1.2.2.2]; decide, by rw [h.1.2.2.2]; decide, ?_, by rw [h.1.1]; exact nI_pos (by omega), by rw [h.1.2.2.1]; decide⟩, fun c hc' => ?_⟩
    · rw [show n 0 0 5 = nI (sv 1) from h.2.1 1 (by decide)]
      obtain ⟨⟨b0, b0'⟩, ⟨b1, b1'⟩, -⟩ := h6
      exact (nI_ltI (a := 0) (by omega) (by omega)).mpr (by omega)
    · rw [ecc] at hc'
      obtain ⟨c0, c1, ⟨c2, c2'⟩, ⟨c3, c3'⟩, -⟩ := hb c
      rw [h.2.2.1 c 0 hc' (by decide), h.2.2.1 c 1 hc' (by decide), h.2.2.1 c 2 hc' (by decide), h.2.2.1 c 3 hc' (by decide)]
      exact ⟨nI_pos (by omega), p_hi (h := 999) (by omega) (by omega), nI_pos (by omega), p_hi (h := 999) (by omega) (by omega), nI_pos (by omega), p_hi (h := 99) (by omega) (by omega), nI_pos (by omega), p_hi (h := 50) (by omega) (by omega)⟩
  · unfold o_gw
    rw [ecc] at hc'
    rw [if_neg (by omega), if_neg (by omega), if_pos (by omega), show (18 + 9 * c + f - 18) / 9 = c by omega, show (18 + 9 * c + f - 18) % 9 = f by omega]
  · unfold r_R
    rw [w1, nI_clamp (by omega)]
    refine ⟨⟨nI_pos (by omega), by omega⟩, fun r hr => ?_, fun r t hr ht e1 e2 => ?_, fun a b ha hb' hne => ?_, fun a b ha hb' _ => ⟨h.2.2.2.2.1 a b 2 ha hb' (by decide), h.2.2.2.2.1 a b 3 ha hb' (by decide)⟩⟩
    · have hm := gd_P hr
      have hm' := (p_pa_m (hy := hy) (C := C) _ C).mp hm
      refine ⟨_, _, by rw [ecc]; exact hm'.1, by rw [ecc]; exact hm'.2.1, by have := wr r 0 (by decide); rwa [if_pos rfl] at this, by have := wr r 1 (by decide); rwa [if_neg (by decide), if_pos rfl] at this, ?_, by have := wr r 2 (by decide); rwa [if_neg (by decide), if_neg (by decide)] at this, by have := wr r 3 (by decide); rwa [if_neg (by decide), if_neg (by decide)] at this, by have := wr r 4 (by decide); rwa [if_neg (by decide), if_neg (by decide)] at this⟩
      rw [h.2.2.2.2.1 _ _ 0 (by omega) (by omega) (by decide), if_pos rfl, if_neg hm'.2.2]
    · have hr' := (p_pa_m (hy := hy) (C := C) _ C).mp (gd_P hr)
      have ht' := (p_pa_m (hy := hy) (C := C) _ C).mp (gd_P ht)
      have a1 := wr r 0 (by decide); have a2 := wr t 0 (by decide)
      have b1 := wr r 1 (by decide); have b2 := wr t 1 (by decide)
      rw [if_pos rfl] at a1 a2
      rw [if_neg (by decide), if_pos rfl] at b1 b2
      refine gd_N (p_pa_n C) hr ht (Prod.ext (nI_inj (by omega) (by omega) ?_) (nI_inj (by omega) (by omega) ?_))
      · exact a1.symm.trans (e1.trans a2)
      · exact b1.symm.trans (e2.trans b2)
    · rw [h.2.2.2.2.1 a b 0 ha hb' (by decide), if_pos rfl] at hne
      have hh : ¬ hy a b < 0 := fun z => hne (if_pos z)
      obtain ⟨r, hr, e⟩ := gd_E ((pa_mem hk a b).mpr hh)
      have a1 := wr r 0 (by decide)
      have b1 := wr r 1 (by decide)
      rw [if_pos rfl, e] at a1
      rw [if_neg (by decide), if_pos rfl, e] at b1
      exact ⟨r, hr, a1, b1⟩
theorem LD_sJ (h : o_LD C cv hy sv n) (hC : C ≤ 5) (hk : o_hyk C hy) (h6 : p_b6 sv) (hG : ∀ m, m < 12 → n 3 m 4 = 0 → n 3 m 6 = 0) (hb : ∀ c, p_b8 (cv c)) : s_J 0 n := by
  have ecc := LD_cc h hC
  have emc := LD_mc h
  have e7 : ∀ t, n 7 0 t = 0 := fun t => by rw [h.2.2.2.2.2]
  have r2 : ∀ r f, r < 64 → f < 4 → n 2 r f = if f = 0 then (if hy (r / 8) (r % 8) < 0 then 0 else 1) else if f = 1 then (if hy (r / 8) (r % 8) < 0 then 0 else hy (r / 8) (r % 8)) else 0 := fun r f hr hf => by
    have := h.2.2.2.2.1 (r / 8) (r % 8) f (by omega) (by omega) hf
    rwa [show 8 * (r / 8) + r % 8 = r by omega] at this
  have r1 : ∀ r, r < 64 → ¬ n 2 r 1 < 0 ∧ ¬ 30 < n 2 r 1 := fun r hr => by
    rw [r2 r 1 hr (by decide), if_neg (by decide), if_pos rfl]
    rcases hk (r / 8) (r % 8) with z | ⟨-, -, -, d, hd, e⟩
    · rw [if_pos (by rw [z]; decide)]; exact ⟨by decide, by decide⟩
    · rw [e, if_neg (nI_pos (by omega))]; exact ⟨nI_pos (by omega), p_hi (h := 30) hd (by decide)⟩
  have oT : ∀ c, o_T n c = 0 := fun c => by unfold o_T; rw [emc]; rfl
  have oW : ∀ c, o_W n c = 0 := fun c => by unfold o_W; rw [emc]; rfl
  have sb : ∀ a, a < 8 → ∀ N, N ≤ 8 → ∀ v, kf (s_sb n a) N v = v := fun a ha N => by
    induction N with
    | zero => exact fun _ _ => rfl
    | succ N ih =>
      intro hN v
      rw [kf_s, ih (by omega)]
      unfold s_sb
      rw [r2 (8 * a + N) 2 (by omega) (by decide), if_neg (by decide), if_neg (by decide), Int32.add_zero]
  have sa : ∀ N, N ≤ 8 → ∀ v, kf (s_sa n) N v = v := fun N => by
    induction N with
    | zero => exact fun _ _ => rfl
    | succ N ih =>
      intro hN v
      rw [kf_s, ih (by omega)]
      unfold s_sa
      rw [ecc]
      exact sb N (by omega) C (by omega) v
  obtain ⟨⟨b0, b0'⟩, ⟨b1, b1'⟩, b2, ⟨b3, b3'⟩, b4, b5, b5'⟩ := h6
  refine ⟨⟨⟨by omega, by omega⟩, fun c hc => ?_, fun c hc => ?_, by rw [ecc, sa C (by omega), e7], ⟨0, 0, 0, e7 0, e7 1, e7 5, by omega, by omega⟩, fun r hr => ⟨0, by rw [r2 r 2 hr (by decide), if_neg (by decide), if_neg (by decide)]; rfl, by omega⟩, fun i hi => absurd hi (by omega), fun r hr => (r1 r hr).2⟩, ⟨hG, fun r hr => (r1 r hr).1⟩, ⟨sv 3, by omega, h.2.1 3 (by decide), fun m hm => absurd hm (by omega)⟩, fun m hm => absurd hm (by omega), 0, h.1.2.2.2, by omega, fun c hc => ⟨0, h.2.2.2.1 c (by omega), by omega⟩, 0, e7 3, by omega⟩
  · rw [oT, h.2.2.1 c 4 (by omega) (by decide)]
    exact fun z => by have := (nI_ltI (by have := (hb c).2.2.2.2.1; omega) (by decide)).mp z; omega
  · rw [oW, h.2.2.1 c 5 (by omega) (by decide)]
    exact fun z => by have := (nI_ltI (by have := (hb c).2.2.2.2.2.1; omega) (by decide)).mp z; omega
end LD
theorem LD_NW {E : ch_E} {hy : Nat → Nat → Int32} {sv : Nat → Nat} {S0 S : ch_S} {μ0 μ : ch_M} {n : ch_N} (h : o_LD (a_C E) (a_cv E) hy sv n) (hD : o_dS E (a_C E) hy sv S0 μ0 S μ) (hk : o_hyk (a_C E) hy) (h6 : p_b6 sv) (hc : k_c8 n) : o_NW n (o_gw n (p_pa hy (a_C E) (a_C E))) S μ := by
  have hC := (a_C5 E).2
  obtain ⟨d1, d2, ⟨d3, d3', d3''⟩, d4, d5, d6, d7⟩ := hD
  have ecc := LD_cc h hC
  have emc := LD_mc h
  refine ⟨by rw [ecc, emc]; exact d2, LD_rN h hC (a_cv_b E) hk h6 hc, fun j hj => ?_, fun c f hc' hf => by rw [d5 c f (by omega) hf, h.2.2.1 c f (by omega) hf], fun c hc' => by rw [d7 33 c (by decide) (by decide), h.2.2.2.1 c (by omega)], fun t ht => by rw [d7 32 t (by decide) (by decide), h.2.2.2.2.2], fun a b ha hb => ⟨?_, ?_, ?_⟩, fun m hm => absurd hm (by omega)⟩
  · have hw : o_gw n (p_pa hy (a_C E) (a_C E)) (o_hd j) = n 0 0 (o_hd j) := if_pos (by unfold o_hd; split <;> omega)
    rw [hw]
    unfold o_hd
    by_cases g0 : j = 0
    · subst g0; rw [if_pos rfl, d3, h.1.1]
    · rw [if_neg g0]
      by_cases g1 : j = 1
      · subst g1; rw [d3', h.1.2.2.1]
      · by_cases g2 : j = 2
        · subst g2; rw [d3'', h.1.2.2.2]
        · have := d4 (j - 3) (by omega)
          rw [show 3 + (j - 3) = j by omega] at this
          rw [this, show j + 1 = 4 + (j - 3) by omega, h.2.1 (j - 3) (by omega)]
  · have e0 := h.2.2.2.2.1 a b 0 ha hb (by decide)
    have e1 := h.2.2.2.2.1 a b 1 ha hb (by decide)
    rw [if_pos rfl] at e0
    rw [if_neg (show ¬ (1 : Nat) = 0 by decide), if_pos rfl] at e1
    rw [d6 a b ha hb, e0, e1]
    by_cases c : hy a b < 0
    · rw [if_pos c, if_pos rfl]
      rcases hk a b with z | ⟨-, -, -, d, hd, e⟩
      · exact z
      · rw [e] at c; exact absurd c (nI_pos (by omega))
    · rw [if_neg c, if_neg (by decide), if_neg c]
  · rw [d7 (16 + a) b (by omega) (by omega), h.2.2.2.2.1 a b 2 ha hb (by decide), if_neg (by decide), if_neg (by decide)]
  · rw [d7 (24 + a) b (by omega) (by omega), h.2.2.2.2.1 a b 3 ha hb (by decide), if_neg (by decide), if_neg (by decide)]
