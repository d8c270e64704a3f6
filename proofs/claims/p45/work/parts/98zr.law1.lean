set_option maxHeartbeats 400000 in
theorem c_lawA {X : ch_X} {E : ch_E} {B T u : Nat} {bf : Int32} {wr : Nat → Int32} {j : Nat} {S S0 : ch_S} {μ μ0 : ch_M} (h : ch_H X E RL cL_law 12) (hG : ch_G X 10 687974 7037776) (kend : ∀ (S : ch_S) (μ : ch_M) (L : List (Nat × Value)), ch_W X E 12 S μ 687974 7037776 486 L [.int 1]) (hX0 : o_LX E B T bf u j wr S μ) : ch_W X E 12 S μ 687974 7037776 415 [(1, .ref (S.1 15 11 0)), (3, .ref (S.1 16 22 0)), (5, .int bf), (6, .ref (S.1 19 52 0)), (7, .int (nI u))] [] := by
  refine ca_iload h dL_law_415 rfl ?_
  refine ca_iconst h dL_law_417 ik_1 ?_
  refine ca_isub h dL_law_418 ?_
  refine ca_istore h dL_law_419 rfl ?_
  have loop_421 : ∀ (jj n : Nat), n + jj = u → ∀ (μi : ch_M) (j : Nat) (hX : o_LX E B T bf (u - n) j wr S μi), ch_W X E 12 S μi 687974 7037776 421 [(1, .ref (S.1 15 11 0)), (3, .ref (S.1 16 22 0)), (5, .int bf), (6, .ref (S.1 19 52 0)), (8, .int (nI (u - n) - 1))] [] := by
    intro jj
    induction jj with
    | zero =>
      intro n hn μi j hX
      have hn : n = u := by omega
      have hu0 : u - n = 0 := by omega
      rw [hu0] at hX
      have hs := hX.1.1
      have hZ0 := hX.1.z
      have hH := hX.1.2.2.2.2.2.1
      have hSN := hX.1.2.2.2.2.2.2
      refine ca_iload h dL_law_421 rfl ?_
      refine ca_if_lt (tgt := 456) h dL_law_423 (by decide) (fun c_423 => ?_) (fun c_423 => ?_)
      ·
        refine ca_aload_nr h dL_law_456 rfl ?_
        refine oa_v h hG ml_L_258 (c_X11_undoN hs hH.2.2.1) (ci := 11) rfl rfl rfl (hs.1 _ _ _ ⟨rfl, rfl⟩) rfl rfl rfl rfl ⟨by omega, by omega⟩ rfl dL_law_457 ?_
        refine ca_iconst h dL_law_460 ik_m1 ?_
        refine ca_icmp_ne (tgt := 485) h dL_law_461 (by decide) (fun c_461 => ?_) (fun c_461 => ?_)
        · exact absurd rfl c_461
        ·
          refine ca_aload_nr h dL_law_464 rfl ?_
          refine oa_v h hG ml_L_298 (c_X11_restoreSnapshot hs hSN.2.2) (ci := 11) rfl rfl rfl (hs.1 _ _ _ ⟨rfl, rfl⟩) rfl rfl rfl rfl ⟨by omega, by omega⟩ rfl dL_law_465 ?_
          have hgd : o_gd (a_C E) (k_cp (μi 0) (μi 2)) := gd_ag (k_cp_ag _ _) (k_cp_c8 (hX.1.2.2.2.1 0 (by decide)) (hX.1.2.2.2.1 2 (by decide))) hSN.1
          have hbf : a_all (k_cp (μi 0) (μi 2)) = bf := (a_all_ag (k_cp_ag _ _) hSN.1.1).trans hSN.2.1
          generalize hμ : up (up μi 0 (k_cp (μi 0) (μi 2))) 15 (nw (μi 15) 14 0 0 0) = μ4
          have m0 : μ4 0 = k_cp (μi 0) (μi 2) := by rw [← hμ, up_n (by decide), up_s]
          have m16 : μ4 16 = μi 16 := by rw [← hμ, up_n (by decide), up_n (by decide)]
          rw [← m0] at hgd hbf
          refine ca_if_eq (tgt := 485) h dL_law_468 (by decide) (fun c_468 => ?_) (fun c_468 => ?_)
          · exact absurd c_468 (by decide)
          ·
            refine ca_aload_nr h dL_law_471 rfl ?_
            refine ca_aload_nr h dL_law_472 rfl ?_
            refine oa_s h hG ms_L_248 (c_L_all hs hX.1.2.1.1 hgd.1 hgd.2.1 (by rw [hgd.2.2, m16]; exact hX.1.2.2.1)) rfl rfl rfl rfl ⟨by omega, by omega⟩ rfl dL_law_473 ?_
            rw [hbf]
            refine ca_iload h dL_law_476 rfl ?_
            refine ca_icmp_ne (tgt := 485) h dL_law_478 (by decide) (fun c_478 => ?_) (fun c_478 => ?_)
            · exact absurd rfl c_478
            ·
              refine ca_iconst h dL_law_481 ik_1 ?_
              refine ca_goto (tgt := 486) h dL_law_482 (by decide) ?_
              exact kend _ _ _
      · exact absurd (by rw [hu0]; decide) c_423
    | succ jj ih_421 =>
      intro n hn μi j hX
      have hn1 : n < u := by omega
      obtain ⟨r, hr⟩ : ∃ r, u - n = r + 1 := ⟨u - n - 1, by omega⟩
      have er : nI (u - n) - 1 = nI r := by rw [hr, ← nI_1]; exact Int32.add_sub_cancel _ _
      have er2 : nI (u - n) + -1 = nI r := by rw [← er]; exact (Int32.sub_eq_add_neg ..).symm
      have en : u - (n + 1) = r := by omega
      rw [hr] at hX
      have hs := hX.1.1
      have hZ0 := hX.1.z
      have hH := hX.1.2.2.2.2.2.1
      refine ca_iload h dL_law_421 rfl ?_
      refine ca_if_lt (tgt := 456) h dL_law_423 (by decide) (fun c_423 => ?_) (fun c_423 => ?_)
      · exact absurd c_423 (by rw [er]; exact nI_pos (by have := hH.1; omega))
      ·
        refine ca_aload_nr h dL_law_426 rfl ?_
        refine oa_v h hG ml_L_258 (c_X11_undo hs (v := r) (by have := hH.1; omega) hH.2.2.1 hH.2.1 hH.2.2.2.1) (ci := 11) rfl rfl rfl (hs.1 _ _ _ ⟨rfl, rfl⟩) rfl rfl rfl rfl ⟨by omega, by omega⟩ rfl dL_law_427 ?_
        obtain ⟨hX1, hal, hwu⟩ := LX_undo hX
        generalize up (up μi 0 (k_cp (μi 0) (μi (3 + k_lx j)))) 15 (k_tkb (μi 15) j) = μ3 at hX1 hal hwu ⊢
        have hZ := hX1.1.z
        refine ca_iload h dL_law_430 rfl ?_
        refine ca_icmp_ne (tgt := 448) h dL_law_432 (by decide) (fun c_432 => ?_) (fun c_432 => ?_)
        · exact absurd er.symm c_432
        ·
          refine ca_aload_nr h dL_law_435 rfl ?_
          refine ca_aload_nr h dL_law_436 rfl ?_
          refine oa_s h hG ms_L_248 (c_L_all hs hX.1.2.1.1 hZ.wf hZ.mc hZ.cc) rfl rfl rfl rfl ⟨by omega, by omega⟩ rfl dL_law_437 ?_
          rw [hal]
          refine ca_aload h dL_law_440 rfl ?_
          refine ca_iload h dL_law_442 rfl ?_
          refine oa_iald h (j := r) rfl (hX.1.2.1.2) er (by have := hH.1; omega) (by decide) dL_law_444 ?_
          refine ca_top (y := wr r) hwu ?_
          refine ca_icmp_eq (tgt := 450) h dL_law_445 (by decide) (fun c_445 => ?_) (fun c_445 => ?_)
          ·
            refine ca_iinc h dL_law_450 rfl ik_m1 rfl ?_
            refine ca_goto (tgt := 421) h dL_law_453 (by decide) ?_
            refine ca_pick [1, 2, 3, 4, 0] rfl ?_
            rw [show nI (u - n) - 1 + -1 = nI (u - (n + 1)) - 1 by rw [er, en]; exact (Int32.sub_eq_add_neg ..).symm]
            exact ih_421 (n + 1) (by omega) μ3 (k_lx j) (by rw [en]; exact hX1)
          · exact absurd rfl c_445
  refine ca_pick [1, 2, 3, 4, 0] rfl ?_
  exact loop_421 u 0 (Nat.zero_add _) μ j (by rw [Nat.sub_zero]; exact hX0)
