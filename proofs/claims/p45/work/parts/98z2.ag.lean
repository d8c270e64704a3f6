/-! networks that agree: what each step makes of them -/
section AG
variable {n m : ch_N}
theorem ag_nw (h : k_ag n m) (kd i j : Nat) (v : Int32) : k_ag (nw n kd i j v) (nw m kd i j v) := by
  obtain ⟨h0, h1, h2, h3, h4, h5⟩ := h
  have row : ∀ a b, n a b = m a b → nw n kd i j v a b = nw m kd i j v a b := fun a b e => by
    funext c
    rw [nw_at, nw_at, e]
  refine ⟨fun c hc => ?_, fun a c ha hc => ?_, fun r c hr hc => ?_, fun a c ha hc => ?_, fun a ha => ⟨row 4 a (h4 a ha).1, row 5 a (h4 a ha).2.1, row 6 a (h4 a ha).2.2⟩, row 7 0 h5⟩
  · rw [nw_at, nw_at, h0 c hc]
  · rw [nw_at, nw_at, h1 a c ha hc]
  · rw [nw_at, nw_at, h2 r c hr hc]
  · rw [nw_at, nw_at, h3 a c ha hc]
theorem ag_nwv (h : k_ag n m) (kd i j : Nat) {v v' : Int32} (e : v = v') : k_ag (nw n kd i j v) (nw m kd i j v') := by rw [e]; exact ag_nw h kd i j v'
theorem ag_na (h : k_ag n m) (kd i : Nat) {f g : Nat → Int32} (e : f = g) : k_ag (na n kd i f) (na m kd i g) := by
  subst e
  obtain ⟨h0, h1, h2, h3, h4, h5⟩ := h
  have row : ∀ a b, n a b = m a b → na n kd i f a b = na m kd i f a b := fun a b e => by
    funext c
    rw [na_at, na_at, e]
  refine ⟨fun c hc => ?_, fun a c ha hc => ?_, fun r c hr hc => ?_, fun a c ha hc => ?_, fun a ha => ⟨row 4 a (h4 a ha).1, row 5 a (h4 a ha).2.1, row 6 a (h4 a ha).2.2⟩, row 7 0 h5⟩
  · rw [na_at, na_at, h0 c hc]
  · rw [na_at, na_at, h1 a c ha hc]
  · rw [na_at, na_at, h2 r c hr hc]
  · rw [na_at, na_at, h3 a c ha hc]
theorem ag_cnt (h : k_ag n m) (t : Nat) : k_ag (k_cnt n t) (k_cnt m t) := by unfold k_cnt; exact ag_nwv h 7 0 t (by rw [h.2.2.2.2.2])
theorem ag_clr (h : k_ag n m) (i : Nat) : k_ag (k_clr n i) (k_clr m i) := by unfold k_clr; exact ag_na (ag_na h 5 i rfl) 6 i rfl
theorem ag_idle (h : k_ag n m) (i : Nat) : k_ag (k_idle n i) (k_idle m i) := by
  unfold k_idle
  exact ag_clr (ag_nw (ag_nw (ag_nw (ag_nw (ag_nw (ag_nw h _ _ _ _) _ _ _ _) _ _ _ _) _ _ _ _) _ _ _ _) _ _ _ _) i
theorem ag_beg (h : k_ag n m) (i : Nat) (c : Int32) : k_ag (k_beg n i c) (k_beg m i c) := by
  unfold k_beg
  exact ag_clr (ag_nw (ag_nw (ag_nw (ag_nw h _ _ _ _) _ _ _ _) _ _ _ _) _ _ _ _) i
theorem ag_mrq (h : k_ag n m) (i : Nat) (c : Int32) {t t' : Int32} (e : t = t') : k_ag (k_mrq n i c t) (k_mrq m i c t') := by unfold k_mrq; exact ag_nwv (ag_nw h _ _ _ _) _ _ _ e
theorem ag_bar (h : k_ag n m) (i : Nat) (x : Int32) {t t' : Int32} (e : t = t') : k_ag (k_bar n i x t) (k_bar m i x t') := by
  subst e
  unfold k_bar
  split
  · exact h
  · split
    · exact ag_nw h _ _ _ _
    · exact h
theorem ag_crp (h : k_ag n m) (i : Nat) (x : Int32) : k_ag (k_crp n i x) (k_crp m i x) := by
  unfold k_crp
  split
  · exact h
  · split
    · exact ag_nw h _ _ _ _
    · exact h
theorem ag_4 (h : k_ag n m) {i : Nat} (hi : i < 12) : n 4 i = m 4 i := (h.2.2.2.2.1 i hi).1
theorem ag_5 (h : k_ag n m) {i : Nat} (hi : i < 12) : n 5 i = m 5 i := (h.2.2.2.2.1 i hi).2.1
theorem ag_6 (h : k_ag n m) {i : Nat} (hi : i < 12) : n 6 i = m 6 i := (h.2.2.2.2.1 i hi).2.2
theorem ag_3 (h : k_ag n m) {i f : Nat} (hi : i < 12) (hf : f < 10) : n 3 i f = m 3 i f := h.2.2.2.1 i f hi hf
theorem ag_1 (h : k_ag n m) {c f : Nat} (hc : c < 8) (hf : f < 9) : n 1 c f = m 1 c f := h.2.1 c f hc hf
theorem ag_2 (h : k_ag n m) {r f : Nat} (hr : r < 64) (hf : f < 4) : n 2 r f = m 2 r f := h.2.2.1 r f hr hf
theorem ag_0 (h : k_ag n m) {f : Nat} (hf : f < 10) : n 0 0 f = m 0 0 f := h.1 f hf
theorem ag_rep (h : k_ag n m) {i : Nat} (hi : i < 12) (x : Int32) : k_rep n i x = k_rep m i x := by unfold k_rep; rw [ag_5 h hi]
theorem ag_avg (h : k_ag n m) {i : Nat} (hi : i < 12) (x : Int32) : k_avg n i x = k_avg m i x := by
  unfold k_avg k_sum
  rw [ag_rep h hi, ag_4 h hi]
theorem ag_isb (h : k_ag n m) {i : Nat} (hi : i < 12) (x t : Int32) : k_isb n i x t = k_isb m i x t := by unfold k_isb; rw [ag_6 h hi]
theorem ag_lv (h : k_ag n m) {c : Nat} (hc : c < 8) (x y : Int32) : k_lv n c x y = k_lv m c x y := by
  unfold k_lv
  rw [ag_1 h hc (by decide), ag_1 h hc (by decide), ag_1 h hc (by decide), ag_1 h hc (by decide)]
theorem ag_tk (h : k_ag n m) (h12 : k_mc n ≤ 12) (c : Int32) : k_tk n c = k_tk m c := by
  unfold k_tk
  rw [← k_ag_mc h]
  exact kf_cg _ _ (fun i y hi => by rw [ag_3 h (by omega) (by decide), ag_3 h (by omega) (by decide)])
theorem ag_rq (h : k_ag n m) (h12 : k_mc n ≤ 12) (c : Int32) : k_rq n c = k_rq m c := by
  unfold k_rq
  rw [← k_ag_mc h]
  exact kf_cg _ _ (fun i y hi => by rw [ag_3 h (by omega) (by decide)])
theorem ag_free (h : k_ag n m) (h12 : k_mc n ≤ 12) {c : Nat} (hc : c < 8) : k_free n (nI c) = k_free m (nI c) := by
  unfold k_free
  rw [ag_tk h h12, k_cel hc, ag_1 h hc (by decide)]
theorem ag_place (h : k_ag n m) (h12 : k_mc n ≤ 12) {c : Nat} (hc : c < 8) : k_place n (nI c) = k_place m (nI c) := by
  unfold k_place
  rw [ag_rq h h12, k_cel hc, ag_1 h hc (by decide)]
theorem ag_cb (h : k_ag n m) {i j : Nat} (hi : i < 12) (hj : j < 12) : k_cb n i j = k_cb m i j := by
  unfold k_cb
  rw [ag_3 h hi (by decide), ag_3 h hj (by decide), ag_3 h hi (by decide), ag_3 h hj (by decide)]
theorem ag_rb (h : k_ag n m) (h12 : k_mc n ≤ 12) {j : Nat} (hj : j < 12) : k_rb n j = k_rb m j := by
  unfold k_rb
  rw [← k_ag_mc h]
  exact kf_cg _ _ (fun i y hi => by rw [ag_3 h (show i < 12 by omega) (by decide), ag_3 h hj (by decide), ag_cb h (by omega) hj])
theorem ag_kq {p q : Nat → Bool} {N : Nat} (h : ∀ i, i < N → p i = q i) : ∀ j, j ≤ N → kq p N j = kq q N j := by
  intro j hj
  rcases kq_spec p N j hj with ⟨e, g⟩ | ⟨r, a, b, c, e, g⟩
  · rcases kq_spec q N j hj with ⟨e', -⟩ | ⟨r', a', b', c', -, -⟩
    · rw [e, e']
    · exact absurd (by rw [h r' b']; exact c') (g r' a' b')
  · rcases kq_spec q N j hj with ⟨-, g'⟩ | ⟨r', a', b', c', e', g'⟩
    · exact absurd (by rw [← h r b]; exact c) (g' r a b)
    · rw [e, e']
      congr 1
      rcases Nat.lt_trichotomy r r' with z | z | z
      · exact absurd (by rw [← h r b]; exact c) (g' r a z)
      · exact z
      · exact absurd (by rw [h r' b']; exact c') (g r' a' z)
theorem ag_qm (h : k_ag n m) (h12 : k_mc n ≤ 12) (c x : Int32) : k_qm n c x = k_qm m c x := by
  unfold k_qm
  rw [← k_ag_mc h]
  exact ag_kq (fun i hi => by rw [ag_3 h (show i < 12 by omega) (by decide), ag_rb h h12 (by omega)]) _ (Nat.le_refl _)
end AG
