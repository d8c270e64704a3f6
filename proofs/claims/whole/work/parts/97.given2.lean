/-! WHAT IS GIVEN AT THE START -/
def ch_rep : List (String × Nat) := [("CellHandover", 267), ("CellHandover$NetworkReader", 39), ("CellHandover$NetworkReader", 48), ("CellHandover$NetworkReader", 53), ("CellHandover$NetworkReader", 33), ("CellHandover", 255), ("CellHandover", 260), ("CellHandover", 263), ("CellHandover$QueryReader", 19), ("CellHandover$QueryReader", 27), ("CellHandover$QueryReader", 59), ("CellHandover$QueryReader", 61), ("CellHandover$QueryReader", 102), ("CellHandover$QueryReader", 104), ("CellHandover$QueryReader", 106), ("CellHandover$QueryReader", 108), ("CellHandover$QueryReader", 112), ("CellHandover$QueryReader", 114), ("CellHandover$QueryReader", 116), ("CellHandover$QueryReader", 79), ("CellHandover$QueryReader", 81), ("CellHandover$QueryReader", 83), ("CellHandover$QueryReader", 70), ("CellHandover$QueryReader", 55), ("CellHandover$QueryReader", 57)]
def ch_tm (i : Nat) : Term := .string (ch_rep.getD i ("", 0)).1 (ch_rep.getD i ("", 0)).2
abbrev ch_fl : List Cond := flatC (Cond.and given_1 narrow_1)
theorem gv_1 : ∀ i, i < 25 → Cond.exactly (ch_tm i) "java/lang/String" ∈ ch_fl := by decide +kernel
theorem gv_2 : ∀ i, i < 25 → Cond.eq (.field (ch_tm i) "java/lang/String" "coder" "B") (.int 0) ∈ ch_fl := by decide +kernel
theorem gv_3 : ∀ i, i < 25 → Cond.arrayOf (.field (ch_tm i) "java/lang/String" "value" "[B") .byte ∈ ch_fl := by decide +kernel
theorem gv_4 : ∀ i, i < 25 → Cond.eq (.length (.field (ch_tm i) "java/lang/String" "value" "[B")) (.int (Int32.ofNat (ch_len.getD i 0))) ∈ ch_fl := by decide +kernel
theorem gv_5 : ∀ i, i < 25 → ∀ j, j < ch_len.getD i 0 → Cond.eq (.elem (.field (ch_tm i) "java/lang/String" "value" "[B") (.int (Int32.ofNat j))) (.int ((ch_byt.getD i []).getD j 0)) ∈ ch_fl := by decide +kernel
theorem gv_6 : ∀ i, i < 25 → ch_len.getD i 0 < 2 ^ 31 := by decide +kernel
theorem gv_7 : ∀ i, i < 25 → ∀ j, j < 25 → i ≠ j → ch_len.getD i 0 ≠ ch_len.getD j 0 ∨ ∃ k, k < ch_len.getD i 0 ∧ (ch_byt.getD i []).getD k 0 ≠ (ch_byt.getD j []).getD k 0 := by decide +kernel
theorem gv_str {args : Array Value} {s : State} (hF : ∀ c ∈ ch_fl, c.before args s = true) {A : Nat → Prop} (hA : ∀ a : Nat, a < s.heap.size → ¬ A a) : ∃ adK adV : Nat → Nat, vk_S ch_nS ch_len ch_byt adK adV A s s.heap ∧ ∀ i, i < 25 → (ch_tm i).eval args s none [] s = some (.ref (adK i)) := by
  have h0 : ∀ i : Nat, ∃ q : Nat × Nat, i < 25 → (ch_tm i).eval args s none [] s = some (.ref q.1) ∧ va_O "java/lang/String" q.1 A s s.heap ∧ va_OF "java/lang/String" "coder" "B" (.int 0) q.1 A s s.heap ∧ va_OF "java/lang/String" "value" "[B" (.ref q.2) q.1 A s s.heap ∧ va_T .byte q.2 (ch_len.getD i 0) (fun j => .int ((ch_byt.getD i []).getD j 0)) A s s.heap := by
    intro i
    by_cases hi : i < 25
    · obtain ⟨a, c, cA, kA, q1, q2, q3, q4, q5, q6, -⟩ := Cond.exactly_spec (args := args) (first := s) (o := none) (s := s) (idx := []) (t := ch_tm i) (cls := "java/lang/String") (hF _ (gv_1 i hi))
      obtain ⟨t, ht, hT⟩ := va_Tof (f := fun j => .int ((ch_byt.getD i []).getD j 0)) (A := A) (gv_6 i hi) (hF _ (gv_3 i hi)) (va_eqt (hF _ (gv_4 i hi))) (fun j hj => va_eqt (hF _ (gv_5 i hi j hj))) hA
      exact ⟨(a, t), fun _ => ⟨q1, ⟨cA, q3, q5, by rw [q6]; exact q2, hA a (Array.getElem?_eq_some_iff.mp q3).1⟩, vk_OFof q1 (va_eqt (hF _ (gv_2 i hi))) hA, vk_OFof q1 ht hA, hT⟩⟩
    · exact ⟨(0, 0), fun h => absurd h hi⟩
  obtain ⟨ad, had⟩ := Classical.axiomOfChoice h0
  refine ⟨fun i => (ad i).1, fun i => (ad i).2, ⟨fun i hi => (had i hi).2, fun i j hi hj e => ?_⟩, fun i hi => (had i hi).1⟩
  by_cases hij : i = j
  · exact hij
  exfalso
  obtain ⟨-, -, -, ⟨cf, k, fi, f, cell, g1, g2, g3, g4, g5, g6⟩, ⟨cV, v1, v2, v3, v4, v5, v6, v7⟩⟩ := had i hi
  obtain ⟨-, -, -, ⟨cf', k', fi', f', cell', g1', g2', g3', g4', g5', g6'⟩, ⟨cV', v1', v2', v3', v4', v5', v6', v7'⟩⟩ := had j hj
  have e1 : (ad i).1 = (ad j).1 := e
  rw [g1] at g1'
  cases g1'
  rw [← e1, g3] at g3'
  cases g3'
  rw [g5] at g5'
  have e2 : (ad i).2 = (ad j).2 := by injection g5' with z; injection z
  rw [← e2, v1] at v1'
  cases v1'
  rw [v5] at v5'
  have el : ch_len.getD i 0 = ch_len.getD j 0 := by
    have := congrArg Int32.toNatClampNeg v5'
    rwa [show Int32.toNatClampNeg (Int32.ofNat (ch_len.getD i 0)) = ch_len.getD i 0 from nI_clamp (gv_6 i hi), show Int32.toNatClampNeg (Int32.ofNat (ch_len.getD j 0)) = ch_len.getD j 0 from nI_clamp (gv_6 j hj)] at this
  rcases gv_7 i hi j hj hij with h | ⟨q, hq, h⟩
  · exact h el
  · have h1 := v6 q hq
    have h2 := v6' q (by rw [← el]; exact hq)
    rw [h1] at h2
    apply h
    injection h2 with z
    injection z
theorem gv_R {s : State} {b : Nat} (hts : ∀ w ∈ lw_tbl, w.before #[.ref b] s = true) (hF : ∀ c ∈ ch_fl, c.before #[.ref b] s = true) {adK : Nat → Nat} (hev : ∀ i, i < 25 → (ch_tm i).eval #[.ref b] s none [] s = some (.ref (adK i))) : ∀ q ∈ ch_str, vk_R q.1 q.2.1 q.2.2.1 (adK q.2.2.2) s :=
  (List.forall_mem_cons.mpr ⟨vk_R.of (hts _ kb_556) (hev 0 (by decide)), (List.forall_mem_cons.mpr ⟨vk_R.of (hts _ kb_635) (hev 1 (by decide)), (List.forall_mem_cons.mpr ⟨vk_R.of (hts _ kb_708) (hev 2 (by decide)), (List.forall_mem_cons.mpr ⟨vk_R.of (hts _ kb_715) (hev 3 (by decide)), (List.forall_mem_cons.mpr ⟨vk_R.of (hts _ kb_720) (hev 4 (by decide)), (List.forall_mem_cons.mpr ⟨vk_R.of (hts _ kb_751) (hev 5 (by decide)), (List.forall_mem_cons.mpr ⟨vk_R.of (hts _ kb_866) (hev 6 (by decide)), (List.forall_mem_cons.mpr ⟨vk_R.of (hts _ kb_1146) (hev 7 (by decide)), (List.forall_mem_cons.mpr ⟨vk_R.of (hts _ kb_1234) (hev 8 (by decide)), (List.forall_mem_cons.mpr ⟨vk_R.of (hts _ kb_1236) (hev 9 (by decide)), (List.forall_mem_cons.mpr ⟨vk_R.of (hts _ kb_1247) (hev 10 (by decide)), (List.forall_mem_cons.mpr ⟨vk_R.of (hts _ kb_1248) (hev 11 (by decide)), (List.forall_mem_cons.mpr ⟨vk_R.of (hts _ kb_1260) (hev 12 (by decide)), (List.forall_mem_cons.mpr ⟨vk_R.of (hts _ kb_1261) (hev 13 (by decide)), (List.forall_mem_cons.mpr ⟨vk_R.of (hts _ kb_1262) (hev 14 (by decide)), (List.forall_mem_cons.mpr ⟨vk_R.of (hts _ kb_1263) (hev 15 (by decide)), (List.forall_mem_cons.mpr ⟨vk_R.of (hts _ kb_1264) (va_eqR (t := .string "CellHandover$NetworkReader" 39) (u := .string "CellHandover$QueryReader" 110) (hF _ (show Cond.eq (.string "CellHandover$NetworkReader" 39) (.string "CellHandover$QueryReader" 110) ∈ ch_fl by decide +kernel)) (hev 1 (by decide))), (List.forall_mem_cons.mpr ⟨vk_R.of (hts _ kb_1265) (hev 16 (by decide)), (List.forall_mem_cons.mpr ⟨vk_R.of (hts _ kb_1266) (hev 17 (by decide)), (List.forall_mem_cons.mpr ⟨vk_R.of (hts _ kb_1267) (hev 18 (by decide)), (List.forall_mem_cons.mpr ⟨vk_R.of (hts _ kb_1269) (hev 19 (by decide)), (List.forall_mem_cons.mpr ⟨vk_R.of (hts _ kb_1270) (hev 20 (by decide)), (List.forall_mem_cons.mpr ⟨vk_R.of (hts _ kb_1271) (hev 21 (by decide)), (List.forall_mem_cons.mpr ⟨vk_R.of (hts _ kb_1282) (hev 22 (by decide)), (List.forall_mem_cons.mpr ⟨vk_R.of (hts _ kb_1284) (hev 23 (by decide)), (List.forall_mem_cons.mpr ⟨vk_R.of (hts _ kb_1285) (hev 24 (by decide)), (List.forall_mem_cons.mpr ⟨vk_R.of (hts _ kb_1306) (va_eqR (t := .string "CellHandover$QueryReader" 102) (u := .string "CellHandoverModel" 40) (hF _ (show Cond.eq (.string "CellHandover$QueryReader" 102) (.string "CellHandoverModel" 40) ∈ ch_fl by decide +kernel)) (hev 12 (by decide))), (List.forall_mem_cons.mpr ⟨vk_R.of (hts _ kb_1307) (va_eqR (t := .string "CellHandover$QueryReader" 104) (u := .string "CellHandoverModel" 42) (hF _ (show Cond.eq (.string "CellHandover$QueryReader" 104) (.string "CellHandoverModel" 42) ∈ ch_fl by decide +kernel)) (hev 13 (by decide))), (List.forall_mem_cons.mpr ⟨vk_R.of (hts _ kb_1308) (va_eqR (t := .string "CellHandover$QueryReader" 106) (u := .string "CellHandoverModel" 44) (hF _ (show Cond.eq (.string "CellHandover$QueryReader" 106) (.string "CellHandoverModel" 44) ∈ ch_fl by decide +kernel)) (hev 14 (by decide))), (List.forall_mem_cons.mpr ⟨vk_R.of (hts _ kb_1309) (va_eqR (t := .string "CellHandover$QueryReader" 108) (u := .string "CellHandoverModel" 46) (hF _ (show Cond.eq (.string "CellHandover$QueryReader" 108) (.string "CellHandoverModel" 46) ∈ ch_fl by decide +kernel)) (hev 15 (by decide))), (List.forall_mem_cons.mpr ⟨vk_R.of (hts _ kb_1310) (va_eqR (t := .string "CellHandover$NetworkReader" 39) (u := .string "CellHandoverModel" 48) (hF _ (show Cond.eq (.string "CellHandover$NetworkReader" 39) (.string "CellHandoverModel" 48) ∈ ch_fl by decide +kernel)) (hev 1 (by decide))), (List.forall_mem_cons.mpr ⟨vk_R.of (hts _ kb_1311) (va_eqR (t := .string "CellHandover$QueryReader" 112) (u := .string "CellHandoverModel" 50) (hF _ (show Cond.eq (.string "CellHandover$QueryReader" 112) (.string "CellHandoverModel" 50) ∈ ch_fl by decide +kernel)) (hev 16 (by decide))), (List.forall_mem_cons.mpr ⟨vk_R.of (hts _ kb_1312) (va_eqR (t := .string "CellHandover$QueryReader" 114) (u := .string "CellHandoverModel" 52) (hF _ (show Cond.eq (.string "CellHandover$QueryReader" 114) (.string "CellHandoverModel" 52) ∈ ch_fl by decide +kernel)) (hev 17 (by decide))), (List.forall_mem_cons.mpr ⟨vk_R.of (hts _ kb_1313) (va_eqR (t := .string "CellHandover$QueryReader" 116) (u := .string "CellHandoverModel" 54) (hF _ (show Cond.eq (.string "CellHandover$QueryReader" 116) (.string "CellHandoverModel" 54) ∈ ch_fl by decide +kernel)) (hev 18 (by decide))), (List.forall_mem_cons.mpr ⟨vk_R.of (hts _ kb_1839) (va_eqR (t := .string "CellHandover$NetworkReader" 48) (u := .string "CellHandoverModel" 363) (hF _ (show Cond.eq (.string "CellHandover$NetworkReader" 48) (.string "CellHandoverModel" 363) ∈ ch_fl by decide +kernel)) (hev 2 (by decide))), (List.forall_mem_cons.mpr ⟨vk_R.of (hts _ kb_1852) (va_eqR (t := .string "CellHandover$NetworkReader" 53) (u := .string "CellHandoverModel" 351) (hF _ (show Cond.eq (.string "CellHandover$NetworkReader" 53) (.string "CellHandoverModel" 351) ∈ ch_fl by decide +kernel)) (hev 3 (by decide))), (List.forall_mem_cons.mpr ⟨vk_R.of (hts _ kb_1873) (va_eqR (t := .string "CellHandover$QueryReader" 27) (u := .string "CellHandoverModel" 412) (hF _ (show Cond.eq (.string "CellHandover$QueryReader" 27) (.string "CellHandoverModel" 412) ∈ ch_fl by decide +kernel)) (hev 9 (by decide))), (List.forall_mem_cons.mpr ⟨vk_R.of (hts _ kb_1874) (va_eqR (t := .string "CellHandover$QueryReader" 19) (u := .string "CellHandoverModel" 414) (hF _ (show Cond.eq (.string "CellHandover$QueryReader" 19) (.string "CellHandoverModel" 414) ∈ ch_fl by decide +kernel)) (hev 8 (by decide))), (List.forall_mem_cons.mpr ⟨vk_R.of (hts _ kb_1887) (va_eqR (t := .string "CellHandover$QueryReader" 59) (u := .string "CellHandoverModel" 382) (hF _ (show Cond.eq (.string "CellHandover$QueryReader" 59) (.string "CellHandoverModel" 382) ∈ ch_fl by decide +kernel)) (hev 10 (by decide))), (List.forall_mem_cons.mpr ⟨vk_R.of (hts _ kb_1900) (va_eqR (t := .string "CellHandover$QueryReader" 57) (u := .string "CellHandoverModel" 396) (hF _ (show Cond.eq (.string "CellHandover$QueryReader" 57) (.string "CellHandoverModel" 396) ∈ ch_fl by decide +kernel)) (hev 24 (by decide))), (List.forall_mem_cons.mpr ⟨vk_R.of (hts _ kb_1905) (va_eqR (t := .string "CellHandover$QueryReader" 55) (u := .string "CellHandoverModel" 404) (hF _ (show Cond.eq (.string "CellHandover$QueryReader" 55) (.string "CellHandoverModel" 404) ∈ ch_fl by decide +kernel)) (hev 23 (by decide))), (fun _ h => absurd h List.not_mem_nil)⟩)⟩)⟩)⟩)⟩)⟩)⟩)⟩)⟩)⟩)⟩)⟩)⟩)⟩)⟩)⟩)⟩)⟩)⟩)⟩)⟩)⟩)⟩)⟩)⟩)⟩)⟩)⟩)⟩)⟩)⟩)⟩)⟩)⟩)⟩)⟩)⟩)⟩)⟩)⟩)⟩)
theorem gv_nest {s : State} {b : Nat} (hts : ∀ w ∈ lw_tbl, w.before #[.ref b] s = true) : ∀ q ∈ ch_nest, va_Nw (.methodLinkNest q.1 q.2.1 q.2.2.1 q.2.2.2) s :=
  (List.forall_mem_cons.mpr ⟨va_Nw.of rfl (hts _ kb_37), (List.forall_mem_cons.mpr ⟨va_Nw.of rfl (hts _ kb_83), (List.forall_mem_cons.mpr ⟨va_Nw.of rfl (hts _ kb_132), (List.forall_mem_cons.mpr ⟨va_Nw.of rfl (hts _ kb_342), (List.forall_mem_cons.mpr ⟨va_Nw.of rfl (hts _ kb_348), (List.forall_mem_cons.mpr ⟨va_Nw.of rfl (hts _ kb_373), (List.forall_mem_cons.mpr ⟨va_Nw.of rfl (hts _ kb_482), (List.forall_mem_cons.mpr ⟨va_Nw.of rfl (hts _ kb_491), (fun _ h => absurd h List.not_mem_nil)⟩)⟩)⟩)⟩)⟩)⟩)⟩)⟩)
theorem gv_cast {s : State} {b : Nat} (hts : ∀ w ∈ lw_tbl, w.before #[.ref b] s = true) : ∀ q ∈ ch_cast, va_Nw (.castable q.1 q.2) s :=
  (List.forall_mem_cons.mpr ⟨va_Nw.of rfl (hts _ kb_518), (List.forall_mem_cons.mpr ⟨va_Nw.of rfl (hts _ kb_744), (List.forall_mem_cons.mpr ⟨va_Nw.of rfl (hts _ kb_1920), (List.forall_mem_cons.mpr ⟨va_Nw.of rfl (hts _ kb_1921), (List.forall_mem_cons.mpr ⟨va_Nw.of rfl (hts _ kb_1922), (List.forall_mem_cons.mpr ⟨va_Nw.of rfl (hts _ kb_1923), (List.forall_mem_cons.mpr ⟨va_Nw.of rfl (hts _ kb_1924), (List.forall_mem_cons.mpr ⟨va_Nw.of rfl (hts _ kb_1925), (List.forall_mem_cons.mpr ⟨va_Nw.of rfl (hts _ kb_1926), (List.forall_mem_cons.mpr ⟨va_Nw.of rfl (hts _ kb_1927), (List.forall_mem_cons.mpr ⟨va_Nw.of rfl (hts _ kb_1928), (List.forall_mem_cons.mpr ⟨va_Nw.of rfl (hts _ kb_1929), (List.forall_mem_cons.mpr ⟨va_Nw.of rfl (hts _ kb_1930), (List.forall_mem_cons.mpr ⟨va_Nw.of rfl (hts _ kb_1931), (List.forall_mem_cons.mpr ⟨va_Nw.of rfl (hts _ kb_1932), (List.forall_mem_cons.mpr ⟨va_Nw.of rfl (hts _ kb_1933), (List.forall_mem_cons.mpr ⟨va_Nw.of rfl (hts _ kb_1934), (List.forall_mem_cons.mpr ⟨va_Nw.of rfl (hts _ kb_1935), (List.forall_mem_cons.mpr ⟨va_Nw.of rfl (hts _ kb_1936), (fun _ h => absurd h List.not_mem_nil)⟩)⟩)⟩)⟩)⟩)⟩)⟩)⟩)⟩)⟩)⟩)⟩)⟩)⟩)⟩)⟩)⟩)⟩)⟩)
theorem gv_decl {s : State} {b : Nat} (hts : ∀ w ∈ lw_tbl, w.before #[.ref b] s = true) : ∀ q ∈ ch_decl, va_Nw (.declares q) s :=
  (List.forall_mem_cons.mpr ⟨va_Nw.of rfl (hts _ kb_519), (List.forall_mem_cons.mpr ⟨va_Nw.of rfl (hts _ kb_520), (List.forall_mem_cons.mpr ⟨va_Nw.of rfl (hts _ kb_521), (List.forall_mem_cons.mpr ⟨va_Nw.of rfl (hts _ kb_522), (List.forall_mem_cons.mpr ⟨va_Nw.of rfl (hts _ kb_523), (List.forall_mem_cons.mpr ⟨va_Nw.of rfl (hts _ kb_524), (fun _ h => absurd h List.not_mem_nil)⟩)⟩)⟩)⟩)⟩)⟩)
theorem gv_nca {s : State} {b : Nat} (hF : ∀ c ∈ ch_fl, c.before #[.ref b] s = true) : ∀ q ∈ ch_nca, va_Nc q.1 q.2 s :=
  (List.forall_mem_cons.mpr ⟨va_Nc.of (hF _ (show Cond.not (.castable "java/lang/IllegalArgumentException" "CellHandover$Cell") ∈ ch_fl by decide +kernel)), (List.forall_mem_cons.mpr ⟨va_Nc.of (hF _ (show Cond.not (.castable "java/lang/IllegalArgumentException" "CellHandover$Mobile") ∈ ch_fl by decide +kernel)), (List.forall_mem_cons.mpr ⟨va_Nc.of (hF _ (show Cond.not (.castable "java/lang/IllegalArgumentException" "CellHandover$Network") ∈ ch_fl by decide +kernel)), (List.forall_mem_cons.mpr ⟨va_Nc.of (hF _ (show Cond.not (.castable "java/lang/IllegalArgumentException" "CellHandover$Relation") ∈ ch_fl by decide +kernel)), (List.forall_mem_cons.mpr ⟨va_Nc.of (hF _ (show Cond.not (.castable "java/lang/IllegalArgumentException" "java/util/NoSuchElementException") ∈ ch_fl by decide +kernel)), (List.forall_mem_cons.mpr ⟨va_Nc.of (hF _ (show Cond.not (.castable "java/util/NoSuchElementException" "CellHandover$Cell") ∈ ch_fl by decide +kernel)), (List.forall_mem_cons.mpr ⟨va_Nc.of (hF _ (show Cond.not (.castable "java/util/NoSuchElementException" "CellHandover$Mobile") ∈ ch_fl by decide +kernel)), (List.forall_mem_cons.mpr ⟨va_Nc.of (hF _ (show Cond.not (.castable "java/util/NoSuchElementException" "CellHandover$Network") ∈ ch_fl by decide +kernel)), (List.forall_mem_cons.mpr ⟨va_Nc.of (hF _ (show Cond.not (.castable "java/util/NoSuchElementException" "CellHandover$Relation") ∈ ch_fl by decide +kernel)), (List.forall_mem_cons.mpr ⟨va_Nc.of (hF _ (show Cond.not (.castable "java/util/NoSuchElementException" "java/lang/IllegalArgumentException") ∈ ch_fl by decide +kernel)), (fun _ h => absurd h List.not_mem_nil)⟩)⟩)⟩)⟩)⟩)⟩)⟩)⟩)⟩)⟩)
theorem gv_ao {s : State} {b : Nat} (hts : ∀ w ∈ lw_tbl, w.before #[.ref b] s = true) : ∀ C ∈ ch_ao, va_AO C s :=
  (List.forall_mem_cons.mpr ⟨va_AO.of (hts _ kb_77), (List.forall_mem_cons.mpr ⟨va_AO.of (hts _ kb_79), (List.forall_mem_cons.mpr ⟨va_AO.of (hts _ kb_81), (List.forall_mem_cons.mpr ⟨va_AO.of (hts _ kb_327), (List.forall_mem_cons.mpr ⟨va_AO.of (hts _ kb_1305), (fun _ h => absurd h List.not_mem_nil)⟩)⟩)⟩)⟩)⟩)
theorem gv_arr {s : State} {b : Nat} (hts : ∀ w ∈ lw_tbl, w.before #[.ref b] s = true) : ∀ t : Nat, ∃ cA : ClassId, t < 7 → ArrOfT s cA (ch_ty t) ∧ va_RA s cA (ch_ty t) := by
  intro t
  by_cases ht : t < 7
  · have hob : ∀ C, va_AO C s → ∃ cA : ClassId, ArrOfT s cA (.object C) ∧ va_RA s cA (.object C) := fun C hC => by
      obtain ⟨comp, c, k, h1, h2, h3, h4, h5⟩ := Cond.arrayOver_spec (va_AO.use (A := #[]) hC)
      exact ⟨c, fun n z => ⟨fun k h => (by cases h), k, h3, comp, h4⟩, k, comp, h3, h4, h1, h5⟩
    have hao := gv_ao hts
    rcases (show t = 0 ∨ t = 1 ∨ t = 2 ∨ t = 3 ∨ t = 4 ∨ t = 5 ∨ t = 6 by omega) with rfl | rfl | rfl | rfl | rfl | rfl | rfl
    · obtain ⟨c, k, comp, h1, h2, h3⟩ := Cond.arrayClass_spec (hts _ (ch_GLt kw_69))
      exact ⟨c, fun _ => ⟨fun n z => ⟨fun k h => (by cases h), k, h2, comp, h3⟩, h1⟩⟩
    · obtain ⟨c, h⟩ := hob _ (hao _ (List.mem_of_getElem? (i := 0) rfl)); exact ⟨c, fun _ => h⟩
    · obtain ⟨c, h⟩ := hob _ (hao _ (List.mem_of_getElem? (i := 1) rfl)); exact ⟨c, fun _ => h⟩
    · obtain ⟨c, h⟩ := hob _ (hao _ (List.mem_of_getElem? (i := 2) rfl)); exact ⟨c, fun _ => h⟩
    · obtain ⟨c, h⟩ := hob _ (hao _ (List.mem_of_getElem? (i := 3) rfl)); exact ⟨c, fun _ => h⟩
    · obtain ⟨c, h⟩ := hob _ (hao _ (List.mem_of_getElem? (i := 4) rfl)); exact ⟨c, fun _ => h⟩
    · obtain ⟨c, k, comp, h1, h2, h3⟩ := Cond.arrayClass_spec (hts _ (ch_GLt kw_1918))
      exact ⟨c, fun _ => ⟨fun n z => ⟨fun k h => (by cases h), k, h2, comp, h3⟩, h1⟩⟩
  · exact ⟨0, fun h => absurd h ht⟩
theorem gv_cls {s : State} {b : Nat} (hts : ∀ w ∈ lw_tbl, w.before #[.ref b] s = true) : ∀ ci : Nat, ∃ q : ClassId × (Nat → Nat), ∀ r, ch_cl[ci]? = some r → u_Kn s r.1 r.2.1 r.2.2 q.1 q.2 := by
  intro ci
  have hG : ∀ w ∈ ch_GL, w.before #[.ref b] s = true := fun w hw => hts w (ch_GLt hw)
  by_cases hc : ci < 13
  · rcases (show ci = 0 ∨ ci = 1 ∨ ci = 2 ∨ ci = 3 ∨ ci = 4 ∨ ci = 5 ∨ ci = 6 ∨ ci = 7 ∨ ci = 8 ∨ ci = 9 ∨ ci = 10 ∨ ci = 11 ∨ ci = 12 by omega) with rfl | rfl | rfl | rfl | rfl | rfl | rfl | rfl | rfl | rfl | rfl | rfl | rfl
    · obtain ⟨cC, iS, h⟩ := u_known (T := TX0) (N := 9) hG li_X0 (hG _ kw_82); exact ⟨(cC, iS), fun r hr => by cases hr; exact h⟩
    · obtain ⟨cC, iS, h⟩ := u_known (T := TX1) (N := 3) hG li_X1 (hG _ kw_321); exact ⟨(cC, iS), fun r hr => by cases hr; exact h⟩
    · obtain ⟨cC, iS, h⟩ := u_known (T := TX2) (N := 13) hG li_X2 (hG _ kw_162); exact ⟨(cC, iS), fun r hr => by cases hr; exact h⟩
    · obtain ⟨cC, iS, h⟩ := u_known (T := TX3) (N := 17) hG li_X3 (hG _ kw_71); exact ⟨(cC, iS), fun r hr => by cases hr; exact h⟩
    · obtain ⟨cC, iS, h⟩ := u_known (T := TX4) (N := 2) hG li_X4 (hG _ kw_600); exact ⟨(cC, iS), fun r hr => by cases hr; exact h⟩
    · obtain ⟨cC, iS, h⟩ := u_known (T := TX5) (N := 2) hG li_X5 (hG _ kw_1218); exact ⟨(cC, iS), fun r hr => by cases hr; exact h⟩
    · obtain ⟨cC, iS, h⟩ := u_known (T := TX6) (N := 4) hG li_X6 (hG _ kw_347); exact ⟨(cC, iS), fun r hr => by cases hr; exact h⟩
    · obtain ⟨cC, iS, h⟩ := u_known (T := TX7) (N := 4) hG li_X7 (hG _ kw_131); exact ⟨(cC, iS), fun r hr => by cases hr; exact h⟩
    · obtain ⟨cC, iS, h⟩ := u_known (T := TX8) (N := 1) hG li_X8 (hG _ kw_341); exact ⟨(cC, iS), fun r hr => by cases hr; exact h⟩
    · obtain ⟨cC, iS, h⟩ := u_known (T := TX9) (N := 1) hG li_X9 (hG _ kw_372); exact ⟨(cC, iS), fun r hr => by cases hr; exact h⟩
    · obtain ⟨cC, iS, h⟩ := u_known (T := TX10) (N := 8) hG li_X10 (hG _ kw_36); exact ⟨(cC, iS), fun r hr => by cases hr; exact h⟩
    · obtain ⟨cC, iS, h⟩ := u_known (T := TX11) (N := 8) hG li_X11 (hG _ kw_28); exact ⟨(cC, iS), fun r hr => by cases hr; exact h⟩
    · obtain ⟨cC, iS, h⟩ := u_known (T := TX12) (N := 25) hG li_X12 (hG _ kw_1299); exact ⟨(cC, iS), fun r hr => by cases hr; exact h⟩
  · refine ⟨(0, fun _ => 0), fun r hr => ?_⟩
    have := (List.getElem?_eq_some_iff.mp hr).1
    exact absurd this (by show ¬ ci < 13; exact hc)
theorem ch_given {s : State} {b : Nat} (hts : ∀ w ∈ lw_tbl, w.before #[.ref b] s = true) (hg : (Cond.and given_1 narrow_1).before #[.ref b] s = true) : ∃ E : ch_E, E.1 = s.heap.size ∧ ch_T E s := by
  have hF : ∀ c ∈ ch_fl, c.before #[.ref b] s = true := flat_of_before _ hg
  have hA : ∀ a : Nat, a < s.heap.size → ¬ (s.heap.size ≤ a) := fun a h => Nat.not_le.mpr h
  obtain ⟨adK, adV, hS, hev⟩ := gv_str hF (A := fun q => s.heap.size ≤ q) hA
  obtain ⟨ar, har⟩ := Classical.axiomOfChoice (gv_arr hts)
  obtain ⟨cl, hcl⟩ := Classical.axiomOfChoice (gv_cls hts)
  refine ⟨(s.heap.size, (fun i => (cl i).1, fun i => (cl i).2), ar, adK, adV), rfl, ⟨fun c q hq => hcl c q hq, fun k q hk => ?_⟩, gv_ao hts, gv_R hts hF hev, hS, va_Zof (hts _ kb_649) (hts _ (ch_GLt kw_19)) (va_eqi (hF _ (show Cond.eq (.static "java/lang/String" "COMPACT_STRINGS" "Z") (.int 1) ∈ ch_fl by decide +kernel))) hA,
    vx_Zqof (hts _ kb_543) (hts _ (ch_GLt kw_12)) (hF _ (show Cond.isRef (.static "java/lang/Throwable" "UNASSIGNED_STACK" "[Ljava/lang/StackTraceElement;") ∈ ch_fl by decide +kernel)) hA,
    vx_Zqof (hts _ kb_545) (hts _ (ch_GLt kw_12)) (hF _ (show Cond.isRef (.static "java/lang/Throwable" "SUPPRESSED_SENTINEL" "Ljava/util/List;") ∈ ch_fl by decide +kernel)) hA,
    gv_nest hts, gv_cast hts, gv_decl hts, gv_nca hF, va_Zqof (hts _ kb_665) (hts _ (ch_GLt kw_21)) (hF _ (show Cond.isRef (.static "jdk/internal/util/Preconditions" "SIOOBE_FORMATTER" "Ljava/util/function/BiFunction;") ∈ ch_fl by decide +kernel)) hA⟩
  have hk7 : k < 7 := (List.getElem?_eq_some_iff.mp hk).1
  have e : (ch_tys (s.heap.size, (fun i => (cl i).1, fun i => (cl i).2), ar, adK, adV))[k]? = some (ar k, ch_ty k) := by
    rcases (show k = 0 ∨ k = 1 ∨ k = 2 ∨ k = 3 ∨ k = 4 ∨ k = 5 ∨ k = 6 by omega) with rfl | rfl | rfl | rfl | rfl | rfl | rfl <;> rfl
  cases e.symm.trans hk
  exact har k hk7
