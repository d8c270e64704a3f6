/-! THE REFERENCE: a relation's number changed; a mobile handed over -/
theorem r_M_same {n n' : ch_N} {w w' : Nat → Int32} {i : Nat} (h : r_N n w) (hi : i < k_mc n) (hw : ∀ f, f < 91 → w' (210 + 91 * i + f) = w (210 + 91 * i + f)) (hk : ∀ kd, kd = 0 ∨ kd = 3 ∨ kd = 4 ∨ kd = 5 ∨ kd = 6 → n' kd = n kd) (h2 : ∀ j, n' 2 j 0 = n 2 j 0) : r_M n' w' i :=
  r_M_congr (h.2.2.2.2.1 i hi) hw (by rw [hk 3 (by omega)]) (by rw [hk 4 (by omega)]) (by rw [hk 5 (by omega)]) (by rw [hk 6 (by omega)]) (by unfold k_cc; rw [hk 0 (by omega)]) h2 (fun c hc => (r_c58 h (show i < 13 by have := r_m12 h hi; omega) hc).2)
theorem r_N_rel {n : ch_N} {w : Nat → Int32} {a b r f : Nat} {v : Int32} (h : r_N n w) (ha : a < 8) (hb : b < 8) (hr : r < Int32.toNatClampNeg (w 1)) (ea : w (90 + 5 * r) = nI a) (eb : w (90 + 5 * r + 1) = nI b) (hf : f = 1 ∨ f = 2 ∨ f = 3) (hex : ¬ n 2 (8 * a + b) 0 = 0) :
    r_N (nw n 2 (8 * a + b) f v) (up w (90 + 5 * r + (f + 1)) v) := by
  have h24 := r_24 h
  have ek : ∀ kd, kd ≠ 2 → nw n 2 (8 * a + b) f v kd = n kd := fun kd hk => nw_k hk
  have e20 : ∀ j, nw n 2 (8 * a + b) f v 2 j 0 = n 2 j 0 := fun j => by rw [nw_at, if_neg (by omega)]
  have ec : k_cc (nw n 2 (8 * a + b) f v) = k_cc n := by unfold k_cc; rw [ek 0 (by decide)]
  have em : k_mc (nw n 2 (8 * a + b) f v) = k_mc n := by unfold k_mc; rw [ek 0 (by decide)]
  have hMs : ∀ i, i < k_mc n → r_M (nw n 2 (8 * a + b) f v) (up w (90 + 5 * r + (f + 1)) v) i := fun i hi => r_M_same h hi (fun g hg => up_n (by omega)) (fun kd hk => ek kd (by omega)) e20
  have hcc8 := h.2.2.2.2.2.2.1
  obtain ⟨a1, ⟨a2, aK⟩, a3, ⟨⟨b1, b2⟩, b3, b4, b5, b6⟩, aM, aW⟩ := h
  have w1 : up w (90 + 5 * r + (f + 1)) v 1 = w 1 := up_n (by omega)
  have wf0 : ∀ t, t < 24 → up w (90 + 5 * r + (f + 1)) v (90 + 5 * t) = w (90 + 5 * t) := fun t ht => up_n (by omega)
  have wf1 : ∀ t, t < 24 → up w (90 + 5 * r + (f + 1)) v (90 + 5 * t + 1) = w (90 + 5 * t + 1) := fun t ht => up_n (by omega)
  refine ⟨fun j hj => by rw [up_n (by omega), ek 0 (by decide)]; exact a1 j hj, ⟨fun t ht => by rw [up_n (by omega), ek 7 (by decide)]; exact a2 t ht, ?_⟩, fun c g hc hg => by rw [up_n (by rw [ec] at hc; omega), ek 1 (by decide)]; exact a3 c g (by rw [ec] at hc; exact hc) hg, ⟨by rw [w1]; exact ⟨b1, b2⟩, fun t ht => ?_, fun t u ht hu e1 e2 => ?_, fun c d hc hd hz => ?_, fun c d hc hd hz => ?_⟩, fun i hi => hMs i (by rw [em] at hi; exact hi), wf_same aW (ek 0 (by decide)) (ek 5 (by decide))⟩
  · unfold r_K at *
    rw [ek 0 (by decide), ek 1 (by decide), ec]
    exact aK
  · rw [w1] at ht
    obtain ⟨c, d, hc, hd, g0, g1, g2, g3, g4, g5⟩ := b3 t ht
    refine ⟨c, d, by rw [ec]; exact hc, by rw [ec]; exact hd, by rw [wf0 t (by omega)]; exact g0, by rw [wf1 t (by omega)]; exact g1, by rw [e20]; exact g2, ?_⟩
    by_cases e : t = r
    · subst e
      have za : c = a := (nI_eq (by omega) (by omega)).mp (g0.symm.trans ea)
      have zb : d = b := (nI_eq (by omega) (by omega)).mp (g1.symm.trans eb)
      subst za zb
      rcases hf with rfl | rfl | rfl
      · exact ⟨by rw [up_s, nw_at, if_pos ⟨rfl, rfl, rfl⟩], by rw [up_n (by omega), nw_at, if_neg (by omega)]; exact g4, by rw [up_n (by omega), nw_at, if_neg (by omega)]; exact g5⟩
      · exact ⟨by rw [up_n (by omega), nw_at, if_neg (by omega)]; exact g3, by rw [up_s, nw_at, if_pos ⟨rfl, rfl, rfl⟩], by rw [up_n (by omega), nw_at, if_neg (by omega)]; exact g5⟩
      · exact ⟨by rw [up_n (by omega), nw_at, if_neg (by omega)]; exact g3, by rw [up_n (by omega), nw_at, if_neg (by omega)]; exact g4, by rw [up_s, nw_at, if_pos ⟨rfl, rfl, rfl⟩]⟩
    · have hne : ¬ 8 * c + d = 8 * a + b := fun z => e (b4 t r ht hr (by rw [g0, ea]; congr 1; omega) (by rw [g1, eb]; congr 1; omega))
      exact ⟨by rw [up_n (by omega), nw_at, if_neg (fun z => hne z.2.1)]; exact g3, by rw [up_n (by omega), nw_at, if_neg (fun z => hne z.2.1)]; exact g4, by rw [up_n (by omega), nw_at, if_neg (fun z => hne z.2.1)]; exact g5⟩
  · rw [w1] at ht hu
    rw [wf0 t (by omega), wf0 u (by omega)] at e1
    rw [wf1 t (by omega), wf1 u (by omega)] at e2
    exact b4 t u ht hu e1 e2
  · rw [e20] at hz
    obtain ⟨t, ht, g1, g2⟩ := b5 c d hc hd hz
    exact ⟨t, by rw [w1]; exact ht, by rw [wf0 t (by omega)]; exact g1, by rw [wf1 t (by omega)]; exact g2⟩
  · rw [e20] at hz
    have hne : ¬ 8 * c + d = 8 * a + b := fun z => hex (by rw [← z]; exact hz)
    rw [nw_at, if_neg (fun z => hne z.2.1), nw_at, if_neg (fun z => hne z.2.1)]
    exact b6 c d hc hd hz
/-- the mobile's part of a handover -/
def k_hom (n : ch_N) (i : Nat) (t v : Int32) : ch_N := nw (nw (nw (k_bar n i (n 3 i 5) v) 3 i 5 t) 3 i 7 0) 3 i 8 (-1)
def r_hom (w : Nat → Int32) (m s : Nat) (t v : Int32) : Nat → Int32 := r_wd (up (up (up w (210 + 91 * m + 5) t) (210 + 91 * m + (11 + s)) v) (210 + 91 * m + 7) 0) m
theorem k_hom_c {n : ch_N} {i s : Nat} {t v : Int32} (hs : s < 8) (h5 : n 3 i 5 = nI s) : k_hom n i t v = nw (nw (nw (nw n 6 i s v) 3 i 5 t) 3 i 7 0) 3 i 8 (-1) := by
  unfold k_hom k_bar
  rw [h5, if_neg (nI_pos (by omega)), if_pos (show nI s < 8 from nI_lt (b := 8) hs (by decide)), nI_clamp (by omega)]
theorem r_N_hom {n : ch_N} {w : Nat → Int32} {m s t : Nat} {v : Int32} (h : r_N n w) (hm : m < k_mc n) (ht : n 3 m 4 = 1) (h5 : n 3 m 5 = nI s) (hs : s < 8) (htc : t < k_cc n) : r_N (k_hom n m (nI t) v) (r_hom w m s (nI t) v) := by
  obtain ⟨a1, a2, a3, a4, a5, a6, a7, a8, a9, a10, a11, a12, a13, a14⟩ := h.2.2.2.2.1 m hm
  have ht8 := r_c8 h htc
  rw [k_hom_c hs h5]
  have e3 : ∀ j, nw (nw (nw (nw n 6 m s v) 3 m 5 (nI t)) 3 m 7 0) 3 m 8 (-1) 3 m j = if j = 8 then -1 else if j = 7 then 0 else if j = 5 then nI t else n 3 m j := by
    intro j
    simp only [nw_at]
    by_cases g8 : j = 8
    · subst g8; simp
    by_cases g7 : j = 7
    · subst g7; simp
    by_cases g5 : j = 5
    · subst g5; simp
    simp [g8, g7, g5]
  have ek : ∀ kd, kd ≠ 3 → kd ≠ 6 → nw (nw (nw (nw n 6 m s v) 3 m 5 (nI t)) 3 m 7 0) 3 m 8 (-1) kd = n kd := fun kd h3 h6 => by rw [nw_k h3, nw_k h3, nw_k h3, nw_k h6]
  have e6 : ∀ c, nw (nw (nw (nw n 6 m s v) 3 m 5 (nI t)) 3 m 7 0) 3 m 8 (-1) 6 m c = if c = s then v else n 6 m c := fun c => by
    rw [nw_k (by decide), nw_k (by decide), nw_k (by decide), nw_at]
    by_cases e : c = s
    · rw [if_pos ⟨rfl, rfl, e⟩, if_pos e]
    · rw [if_neg (fun z => e z.2.2), if_neg e]
  have ew : ∀ i, r_hom w m s (nI t) v i = if i = 210 + 91 * m + 8 then -1 else if i = 210 + 91 * m + 7 then 0 else if i = 210 + 91 * m + (11 + s) then v else if i = 210 + 91 * m + 5 then nI t else w i := fun i => rfl
  have hoff : ∀ kd i, i ≠ m → nw (nw (nw (nw n 6 m s v) 3 m 5 (nI t)) 3 m 7 0) 3 m 8 (-1) kd i = n kd i := fun kd i hi => by
    funext j
    simp [nw_at, hi]
  generalize nw (nw (nw (nw n 6 m s v) 3 m 5 (nI t)) 3 m 7 0) 3 m 8 (-1) = n' at *
  have ec : k_cc n' = k_cc n := by unfold k_cc; rw [ek 0 (by decide) (by decide)]
  have s1 : n' 3 m 4 = 1 := by rw [e3, if_neg (by decide), if_neg (by decide), if_neg (by decide), ht]
  have s8 : n' 3 m 8 = -1 := by rw [e3, if_pos rfl]
  refine r_N_mob h hm (fun kd h3 _ _ h6 => ek kd h3 h6) hoff (fun j hj => by rw [ew, if_neg (by omega), if_neg (by omega), if_neg (by omega), if_neg (by omega)]) ?_ (wf_same h.2.2.2.2.2 (ek 0 (by decide) (by decide)) (ek 5 (by decide) (by decide)))
  unfold r_M
  rw [s1, s8, ek 2 (by decide) (by decide), ek 4 (by decide) (by decide), ek 5 (by decide) (by decide), ec]
  refine ⟨fun f hf => ?_, by rw [ew, if_pos rfl], fun _ => ⟨by rw [ew, if_neg (by omega), if_pos rfl, e3, if_neg (by decide), if_pos rfl], fun c hc => ?_⟩, fun z => absurd rfl z, Or.inr (Or.inl rfl), fun _ => ⟨t, htc, by rw [e3, if_neg (by decide), if_neg (by decide), if_pos rfl]⟩, fun z => absurd rfl z, fun z => absurd z (by decide), fun z => absurd z (by decide), Or.inl rfl, fun _ => ?_, fun _ c hc z => absurd z.symm (nI_nm1 (by omega)), ?_, fun _ => a14 ht⟩
  · rw [ew, e3, if_neg (by omega), if_neg (by omega), if_neg (by omega)]
    by_cases g5 : f = 5
    · subst g5
      rw [if_pos rfl, if_neg (by decide), if_neg (by decide), if_pos rfl]
    · rw [if_neg (by omega), if_neg (by omega), if_neg (by omega), if_neg g5]
      exact a1 f hf
  · obtain ⟨b1, b2, b3⟩ := (a3 ht).2 c hc
    refine ⟨?_, ?_, fun k hk => ?_⟩
    · rw [ew, if_neg (by omega), if_neg (by omega), e6]
      by_cases e : c = s
      · rw [if_pos (by omega), if_pos e]
      · rw [if_neg (by omega), if_neg (by omega), if_neg e]; exact b1
    · rw [ew, if_neg (by omega), if_neg (by omega), if_neg (by omega), if_neg (by omega)]; exact b2
    · rw [ew, if_neg (by omega), if_neg (by omega), if_neg (by omega), if_neg (by omega)]; exact b3 k hk
  · rw [e3, if_neg (by decide), if_neg (by decide), if_neg (by decide)]
    exact a11 (by rw [ht]; decide)
  · rw [e3, e3, if_neg (by decide), if_neg (by decide), if_neg (by decide), if_neg (by decide), if_neg (by decide), if_neg (by decide)]
    exact a13
