/-! WHAT IS GIVEN AT THE START -/
def ch_rep : List (String × Nat) := [("CellHandover", 267), ("CellHandoverLaw", 72), ("CellHandoverLaw", 81), ("CellHandoverLaw", 83), ("CellHandover$NetworkReader", 33), ("CellHandover", 260), ("CellHandover", 255), ("CellHandover", 263)]
def ch_tm (i : Nat) : Term := .string (ch_rep.getD i ("", 0)).1 (ch_rep.getD i ("", 0)).2
abbrev ch_fl : List Cond := flatC (Cond.and given_1 narrow_1)
theorem gv_1 : ∀ i, i < 8 → Cond.exactly (ch_tm i) "java/lang/String" ∈ ch_fl := by decide +kernel
theorem gv_2 : ∀ i, i < 8 → Cond.eq (.field (ch_tm i) "java/lang/String" "coder" "B") (.int 0) ∈ ch_fl := by decide +kernel
theorem gv_3 : ∀ i, i < 8 → Cond.arrayOf (.field (ch_tm i) "java/lang/String" "value" "[B") .byte ∈ ch_fl := by decide +kernel
theorem gv_4 : ∀ i, i < 8 → Cond.eq (.length (.field (ch_tm i) "java/lang/String" "value" "[B")) (.int (Int32.ofNat (ch_len.getD i 0))) ∈ ch_fl := by decide +kernel
theorem gv_5 : ∀ i, i < 8 → ∀ j, j < ch_len.getD i 0 → Cond.eq (.elem (.field (ch_tm i) "java/lang/String" "value" "[B") (.int (Int32.ofNat j))) (.int ((ch_byt.getD i []).getD j 0)) ∈ ch_fl := by decide +kernel
theorem gv_6 : ∀ i, i < 8 → ch_len.getD i 0 < 2 ^ 31 := by decide +kernel
theorem gv_7 : ∀ i, i < 8 → ∀ j, j < 8 → i ≠ j → ch_len.getD i 0 ≠ ch_len.getD j 0 ∨ ∃ k, k < ch_len.getD i 0 ∧ (ch_byt.getD i []).getD k 0 ≠ (ch_byt.getD j []).getD k 0 := by decide +kernel
theorem gv_str {args : Array Value} {s : State} (hF : ∀ c ∈ ch_fl, c.before args s = true) {A : Nat → Prop} (hA : ∀ a : Nat, a < s.heap.size → ¬ A a) : ∃ adK adV : Nat → Nat, vk_S ch_nS ch_len ch_byt adK adV A s s.heap ∧ ∀ i, i < 8 → (ch_tm i).eval args s none [] s = some (.ref (adK i)) := by
  have h0 : ∀ i : Nat, ∃ q : Nat × Nat, i < 8 → (ch_tm i).eval args s none [] s = some (.ref q.1) ∧ va_O "java/lang/String" q.1 A s s.heap ∧ va_OF "java/lang/String" "coder" "B" (.int 0) q.1 A s s.heap ∧ va_OF "java/lang/String" "value" "[B" (.ref q.2) q.1 A s s.heap ∧ va_T .byte q.2 (ch_len.getD i 0) (fun j => .int ((ch_byt.getD i []).getD j 0)) A s s.heap := by
    intro i
    by_cases hi : i < 8
    · obtain ⟨a, c, cA, kA, q1, q2, q3, q4, q5, q6, -⟩ := Cond.exactly_spec (args := args) (first := s) (o := none) (s := s) (idx := []) (t := ch_tm i) (cls := "java/lang/String") (hF _ (gv_1 i hi))
      obtain ⟨t, ht, hT⟩ := va_Tof (f := fun j => .int ((ch_byt.getD i []).getD j 0)) (A := A) (gv_6 i hi) (hF _ (gv_3 i hi)) (va_eqt (hF _ (gv_4 i hi))) (fun j hj => va_eqt (hF _ (gv_5 i hi j hj))) hA
      exact ⟨(a, t), fun _ => ⟨q1, ⟨cA, q3, q5, by rw [q6]; exact q2, hA a (Array.getElem?_eq_some_iff.mp q3).1⟩, vk_OFof q1 (va_eqt (hF _ (gv_2 i hi))) hA, vk_OFof q1 ht hA, hT⟩⟩
    · exact ⟨(0, 0), fun h => absurd h hi⟩
  obtain ⟨ad, had⟩ := Classical.axiomOfChoice h0
  refine ⟨fun i => (ad i).1, fun i => (ad i).2, ⟨fun i hi => (had i hi).2, fun i j hi hj e => ?_⟩, fun i hi => (had i hi).1⟩
  by_cases hij : i = j
  · exact hij
  exfalso
  obtain ⟨-, -, -, ⟨cf, k, fi, f, cell, g1, g2, g3, g4, g5, g6⟩, ⟨cV, v1, v2, v3, v4, v5, v6, v7⟩⟩ := had i hi
  obtain ⟨-, -, -, ⟨cf', k', fi', f', cell', g1', g2', g3', g4', g5', g6'⟩, ⟨cV', v1', v2', v3', v4', v5', v6', v7'⟩⟩ := had j hj
  have e1 : (ad i).1 = (ad j).1 := e
  rw [g1] at g1'
  cases g1'
  rw [← e1, g3] at g3'
  cases g3'
  rw [g5] at g5'
  have e2 : (ad i).2 = (ad j).2 := by injection g5' with z; injection z
  rw [← e2, v1] at v1'
  cases v1'
  rw [v5] at v5'
  have el : ch_len.getD i 0 = ch_len.getD j 0 := by
    have := congrArg Int32.toNatClampNeg v5'
    rwa [show Int32.toNatClampNeg (Int32.ofNat (ch_len.getD i 0)) = ch_len.getD i 0 from nI_clamp (gv_6 i hi), show Int32.toNatClampNeg (Int32.ofNat (ch_len.getD j 0)) = ch_len.getD j 0 from nI_clamp (gv_6 j hj)] at this
  rcases gv_7 i hi j hj hij with h | ⟨q, hq, h⟩
  · exact h el
  · have h1 := v6 q hq
    have h2 := v6' q (by rw [← el]; exact hq)
    rw [h1] at h2
    apply h
    injection h2 with z
    injection z
theorem gv_R {s : State} {b : Nat} (hts : ∀ w ∈ lw_tbl, w.before #[.ref b] s = true) (hF : ∀ c ∈ ch_fl, c.before #[.ref b] s = true) {adK : Nat → Nat} (hev : ∀ i, i < 8 → (ch_tm i).eval #[.ref b] s none [] s = some (.ref (adK i))) : ∀ q ∈ ch_str, vk_R q.1 q.2.1 q.2.2.1 (adK q.2.2.2) s :=
  (List.forall_mem_cons.mpr ⟨vk_R.of (hts _ kb_453) (hev 0 (by decide)), (List.forall_mem_cons.mpr ⟨vk_R.of (hts _ kb_860) (hev 1 (by decide)), (List.forall_mem_cons.mpr ⟨vk_R.of (hts _ kb_929) (hev 2 (by decide)), (List.forall_mem_cons.mpr ⟨vk_R.of (hts _ kb_930) (hev 3 (by decide)), (List.forall_mem_cons.mpr ⟨vk_R.of (hts _ kb_988) (va_eqR (t := .string "CellHandoverLaw" 72) (u := .string "CellHandover$NetworkReader" 39) (hF _ (show Cond.eq (.string "CellHandoverLaw" 72) (.string "CellHandover$NetworkReader" 39) ∈ ch_fl by decide +kernel)) (hev 1 (by decide))), (List.forall_mem_cons.mpr ⟨vk_R.of (hts _ kb_1015) (va_eqR (t := .string "CellHandoverLaw" 81) (u := .string "CellHandover$NetworkReader" 48) (hF _ (show Cond.eq (.string "CellHandoverLaw" 81) (.string "CellHandover$NetworkReader" 48) ∈ ch_fl by decide +kernel)) (hev 2 (by decide))), (List.forall_mem_cons.mpr ⟨vk_R.of (hts _ kb_1022) (va_eqR (t := .string "CellHandoverLaw" 83) (u := .string "CellHandover$NetworkReader" 53) (hF _ (show Cond.eq (.string "CellHandoverLaw" 83) (.string "CellHandover$NetworkReader" 53) ∈ ch_fl by decide +kernel)) (hev 3 (by decide))), (List.forall_mem_cons.mpr ⟨vk_R.of (hts _ kb_1027) (hev 4 (by decide)), (List.forall_mem_cons.mpr ⟨vk_R.of (hts _ kb_1137) (hev 5 (by decide)), (List.forall_mem_cons.mpr ⟨vk_R.of (hts _ kb_1191) (hev 6 (by decide)), (List.forall_mem_cons.mpr ⟨vk_R.of (hts _ kb_1276) (hev 7 (by decide)), (fun _ h => absurd h List.not_mem_nil)⟩)⟩)⟩)⟩)⟩)⟩)⟩)⟩)⟩)⟩)⟩)
theorem gv_nest {s : State} {b : Nat} (hts : ∀ w ∈ lw_tbl, w.before #[.ref b] s = true) : ∀ q ∈ ch_nest, va_Nw (.methodLinkNest q.1 q.2.1 q.2.2.1 q.2.2.2) s :=
  (List.forall_mem_cons.mpr ⟨va_Nw.of rfl (hts _ kb_36), (List.forall_mem_cons.mpr ⟨va_Nw.of rfl (hts _ kb_81), (List.forall_mem_cons.mpr ⟨va_Nw.of rfl (hts _ kb_130), (List.forall_mem_cons.mpr ⟨va_Nw.of rfl (hts _ kb_330), (List.forall_mem_cons.mpr ⟨va_Nw.of rfl (hts _ kb_336), (List.forall_mem_cons.mpr ⟨va_Nw.of rfl (hts _ kb_361), (List.forall_mem_cons.mpr ⟨va_Nw.of rfl (hts _ kb_513), (List.forall_mem_cons.mpr ⟨va_Nw.of rfl (hts _ kb_522), (List.forall_mem_cons.mpr ⟨va_Nw.of rfl (hts _ kb_725), (List.forall_mem_cons.mpr ⟨va_Nw.of rfl (hts _ kb_736), (List.forall_mem_cons.mpr ⟨va_Nw.of rfl (hts _ kb_741), (List.forall_mem_cons.mpr ⟨va_Nw.of rfl (hts _ kb_765), (List.forall_mem_cons.mpr ⟨va_Nw.of rfl (hts _ kb_788), (List.forall_mem_cons.mpr ⟨va_Nw.of rfl (hts _ kb_1041), (List.forall_mem_cons.mpr ⟨va_Nw.of rfl (hts _ kb_1108), (List.forall_mem_cons.mpr ⟨va_Nw.of rfl (hts _ kb_1173), (fun _ h => absurd h List.not_mem_nil)⟩)⟩)⟩)⟩)⟩)⟩)⟩)⟩)⟩)⟩)⟩)⟩)⟩)⟩)⟩)⟩)
theorem gv_nfl {s : State} {b : Nat} (hts : ∀ w ∈ lw_tbl, w.before #[.ref b] s = true) : ∀ q ∈ ch_nfl, va_Nw (.fieldLinkNest q.1 q.2.1 q.2.2.1 q.2.2.2.1 q.2.2.2.2.1 q.2.2.2.2.2) s :=
  (List.forall_mem_cons.mpr ⟨va_Nw.of rfl (hts _ kb_798), (List.forall_mem_cons.mpr ⟨va_Nw.of rfl (hts _ kb_800), (List.forall_mem_cons.mpr ⟨va_Nw.of rfl (hts _ kb_803), (List.forall_mem_cons.mpr ⟨va_Nw.of rfl (hts _ kb_805), (List.forall_mem_cons.mpr ⟨va_Nw.of rfl (hts _ kb_807), (List.forall_mem_cons.mpr ⟨va_Nw.of rfl (hts _ kb_809), (List.forall_mem_cons.mpr ⟨va_Nw.of rfl (hts _ kb_811), (List.forall_mem_cons.mpr ⟨va_Nw.of rfl (hts _ kb_813), (List.forall_mem_cons.mpr ⟨va_Nw.of rfl (hts _ kb_815), (List.forall_mem_cons.mpr ⟨va_Nw.of rfl (hts _ kb_817), (List.forall_mem_cons.mpr ⟨va_Nw.of rfl (hts _ kb_823), (List.forall_mem_cons.mpr ⟨va_Nw.of rfl (hts _ kb_1046), (List.forall_mem_cons.mpr ⟨va_Nw.of rfl (hts _ kb_1047), (List.forall_mem_cons.mpr ⟨va_Nw.of rfl (hts _ kb_1048), (List.forall_mem_cons.mpr ⟨va_Nw.of rfl (hts _ kb_1049), (List.forall_mem_cons.mpr ⟨va_Nw.of rfl (hts _ kb_1050), (List.forall_mem_cons.mpr ⟨va_Nw.of rfl (hts _ kb_1051), (List.forall_mem_cons.mpr ⟨va_Nw.of rfl (hts _ kb_1052), (List.forall_mem_cons.mpr ⟨va_Nw.of rfl (hts _ kb_1053), (List.forall_mem_cons.mpr ⟨va_Nw.of rfl (hts _ kb_1055), (List.forall_mem_cons.mpr ⟨va_Nw.of rfl (hts _ kb_1056), (List.forall_mem_cons.mpr ⟨va_Nw.of rfl (hts _ kb_1058), (List.forall_mem_cons.mpr ⟨va_Nw.of rfl (hts _ kb_1060), (List.forall_mem_cons.mpr ⟨va_Nw.of rfl (hts _ kb_1062), (List.forall_mem_cons.mpr ⟨va_Nw.of rfl (hts _ kb_1064), (List.forall_mem_cons.mpr ⟨va_Nw.of rfl (hts _ kb_1065), (List.forall_mem_cons.mpr ⟨va_Nw.of rfl (hts _ kb_1066), (List.forall_mem_cons.mpr ⟨va_Nw.of rfl (hts _ kb_1068), (List.forall_mem_cons.mpr ⟨va_Nw.of rfl (hts _ kb_1070), (fun _ h => absurd h List.not_mem_nil)⟩)⟩)⟩)⟩)⟩)⟩)⟩)⟩)⟩)⟩)⟩)⟩)⟩)⟩)⟩)⟩)⟩)⟩)⟩)⟩)⟩)⟩)⟩)⟩)⟩)⟩)⟩)⟩)⟩)
theorem gv_cast {s : State} {b : Nat} (hts : ∀ w ∈ lw_tbl, w.before #[.ref b] s = true) : ∀ q ∈ ch_cast, va_Nw (.castable q.1 q.2) s :=
  (List.forall_mem_cons.mpr ⟨va_Nw.of rfl (hts _ kb_415), (List.forall_mem_cons.mpr ⟨va_Nw.of rfl (hts _ kb_1130), (List.forall_mem_cons.mpr ⟨va_Nw.of rfl (hts _ kb_1305), (List.forall_mem_cons.mpr ⟨va_Nw.of rfl (hts _ kb_1306), (List.forall_mem_cons.mpr ⟨va_Nw.of rfl (hts _ kb_1307), (List.forall_mem_cons.mpr ⟨va_Nw.of rfl (hts _ kb_1308), (List.forall_mem_cons.mpr ⟨va_Nw.of rfl (hts _ kb_1309), (List.forall_mem_cons.mpr ⟨va_Nw.of rfl (hts _ kb_1310), (List.forall_mem_cons.mpr ⟨va_Nw.of rfl (hts _ kb_1311), (List.forall_mem_cons.mpr ⟨va_Nw.of rfl (hts _ kb_1312), (List.forall_mem_cons.mpr ⟨va_Nw.of rfl (hts _ kb_1313), (List.forall_mem_cons.mpr ⟨va_Nw.of rfl (hts _ kb_1314), (List.forall_mem_cons.mpr ⟨va_Nw.of rfl (hts _ kb_1315), (List.forall_mem_cons.mpr ⟨va_Nw.of rfl (hts _ kb_1316), (List.forall_mem_cons.mpr ⟨va_Nw.of rfl (hts _ kb_1317), (List.forall_mem_cons.mpr ⟨va_Nw.of rfl (hts _ kb_1318), (List.forall_mem_cons.mpr ⟨va_Nw.of rfl (hts _ kb_1319), (List.forall_mem_cons.mpr ⟨va_Nw.of rfl (hts _ kb_1320), (List.forall_mem_cons.mpr ⟨va_Nw.of rfl (hts _ kb_1321), (fun _ h => absurd h List.not_mem_nil)⟩)⟩)⟩)⟩)⟩)⟩)⟩)⟩)⟩)⟩)⟩)⟩)⟩)⟩)⟩)⟩)⟩)⟩)⟩)
theorem gv_decl {s : State} {b : Nat} (hts : ∀ w ∈ lw_tbl, w.before #[.ref b] s = true) : ∀ q ∈ ch_decl, va_Nw (.declares q) s :=
  (List.forall_mem_cons.mpr ⟨va_Nw.of rfl (hts _ kb_416), (List.forall_mem_cons.mpr ⟨va_Nw.of rfl (hts _ kb_417), (List.forall_mem_cons.mpr ⟨va_Nw.of rfl (hts _ kb_418), (List.forall_mem_cons.mpr ⟨va_Nw.of rfl (hts _ kb_419), (List.forall_mem_cons.mpr ⟨va_Nw.of rfl (hts _ kb_420), (List.forall_mem_cons.mpr ⟨va_Nw.of rfl (hts _ kb_421), (fun _ h => absurd h List.not_mem_nil)⟩)⟩)⟩)⟩)⟩)⟩)
theorem gv_nca {s : State} {b : Nat} (hF : ∀ c ∈ ch_fl, c.before #[.ref b] s = true) : ∀ q ∈ ch_nca, va_Nc q.1 q.2 s :=
  (List.forall_mem_cons.mpr ⟨va_Nc.of (hF _ (show Cond.not (.castable "java/lang/IllegalArgumentException" "CellHandover$Cell") ∈ ch_fl by decide +kernel)), (List.forall_mem_cons.mpr ⟨va_Nc.of (hF _ (show Cond.not (.castable "java/lang/IllegalArgumentException" "CellHandover$Mobile") ∈ ch_fl by decide +kernel)), (List.forall_mem_cons.mpr ⟨va_Nc.of (hF _ (show Cond.not (.castable "java/lang/IllegalArgumentException" "CellHandover$Network") ∈ ch_fl by decide +kernel)), (List.forall_mem_cons.mpr ⟨va_Nc.of (hF _ (show Cond.not (.castable "java/lang/IllegalArgumentException" "CellHandover$Relation") ∈ ch_fl by decide +kernel)), (List.forall_mem_cons.mpr ⟨va_Nc.of (hF _ (show Cond.not (.castable "java/lang/IllegalArgumentException" "CellHandoverLaw$Mobile") ∈ ch_fl by decide +kernel)), (List.forall_mem_cons.mpr ⟨va_Nc.of (hF _ (show Cond.not (.castable "java/util/NoSuchElementException" "CellHandover$Cell") ∈ ch_fl by decide +kernel)), (List.forall_mem_cons.mpr ⟨va_Nc.of (hF _ (show Cond.not (.castable "java/util/NoSuchElementException" "CellHandover$Mobile") ∈ ch_fl by decide +kernel)), (List.forall_mem_cons.mpr ⟨va_Nc.of (hF _ (show Cond.not (.castable "java/util/NoSuchElementException" "CellHandover$Network") ∈ ch_fl by decide +kernel)), (List.forall_mem_cons.mpr ⟨va_Nc.of (hF _ (show Cond.not (.castable "java/util/NoSuchElementException" "CellHandover$Relation") ∈ ch_fl by decide +kernel)), (List.forall_mem_cons.mpr ⟨va_Nc.of (hF _ (show Cond.not (.castable "java/util/NoSuchElementException" "CellHandoverLaw$Mobile") ∈ ch_fl by decide +kernel)), (fun _ h => absurd h List.not_mem_nil)⟩)⟩)⟩)⟩)⟩)⟩)⟩)⟩)⟩)⟩)
theorem gv_ao {s : State} {b : Nat} (hts : ∀ w ∈ lw_tbl, w.before #[.ref b] s = true) : ∀ C ∈ ch_ao, va_AO C s :=
  (List.forall_mem_cons.mpr ⟨va_AO.of (hts _ kb_75), (List.forall_mem_cons.mpr ⟨va_AO.of (hts _ kb_77), (List.forall_mem_cons.mpr ⟨va_AO.of (hts _ kb_79), (List.forall_mem_cons.mpr ⟨va_AO.of (hts _ kb_315), (List.forall_mem_cons.mpr ⟨va_AO.of (hts _ kb_796), (fun _ h => absurd h List.not_mem_nil)⟩)⟩)⟩)⟩)⟩)
theorem gv_aoi {s : State} {b : Nat} (hts : ∀ w ∈ lw_tbl, w.before #[.ref b] s = true) : (Cond.arrayOver (.array .int)).before #[] s = true := by
  have h := hts _ kb_793
  unfold Cond.before Cond.holds at h ⊢
  simp only [Cond.value] at h ⊢
  exact h
theorem gv_arr {s : State} {b : Nat} (hts : ∀ w ∈ lw_tbl, w.before #[.ref b] s = true) : ∀ t : Nat, ∃ cA : ClassId, t < 7 → ArrOfT s cA (ch_ty t) ∧ va_RA s cA (ch_ty t) := by
  intro t
  by_cases ht : t < 7
  · have hob : ∀ C, va_AO C s → ∃ cA : ClassId, ArrOfT s cA (.object C) ∧ va_RA s cA (.object C) := fun C hC => by
      obtain ⟨comp, c, k, h1, h2, h3, h4, h5⟩ := Cond.arrayOver_spec (va_AO.use (A := #[]) hC)
      exact ⟨c, fun n z => ⟨fun k h => (by cases h), k, h3, comp, h4⟩, k, comp, h3, h4, h1, h5⟩
    have hao := gv_ao hts
    rcases (show t = 0 ∨ t = 1 ∨ t = 2 ∨ t = 3 ∨ t = 4 ∨ t = 5 ∨ t = 6 by omega) with rfl | rfl | rfl | rfl | rfl | rfl | rfl
    · obtain ⟨c, k, comp, h1, h2, h3⟩ := Cond.arrayClass_spec (hts _ (ch_GLt kw_67))
      exact ⟨c, fun _ => ⟨fun n z => ⟨fun k h => (by cases h), k, h2, comp, h3⟩, h1⟩⟩
    · obtain ⟨c, h⟩ := hob _ (hao _ (List.mem_of_getElem? (i := 0) rfl)); exact ⟨c, fun _ => h⟩
    · obtain ⟨c, h⟩ := hob _ (hao _ (List.mem_of_getElem? (i := 1) rfl)); exact ⟨c, fun _ => h⟩
    · obtain ⟨c, h⟩ := hob _ (hao _ (List.mem_of_getElem? (i := 2) rfl)); exact ⟨c, fun _ => h⟩
    · obtain ⟨c, h⟩ := hob _ (hao _ (List.mem_of_getElem? (i := 3) rfl)); exact ⟨c, fun _ => h⟩
    · obtain ⟨comp, c, k, h1, h2, h3, h4, h5⟩ := arrayOverA_spec (gv_aoi hts)
      exact ⟨c, fun _ => ⟨fun n z => ⟨fun k h => (by cases h), k, h3, comp, h4⟩, h5⟩⟩
    · obtain ⟨c, h⟩ := hob _ (hao _ (List.mem_of_getElem? (i := 4) rfl)); exact ⟨c, fun _ => h⟩
  · exact ⟨0, fun h => absurd h ht⟩
theorem gv_cls {s : State} {b : Nat} (hts : ∀ w ∈ lw_tbl, w.before #[.ref b] s = true) : ∀ ci : Nat, ∃ q : ClassId × (Nat → Nat), ∀ r, ch_cl[ci]? = some r → u_Kn s r.1 r.2.1 r.2.2 q.1 q.2 := by
  intro ci
  have hG : ∀ w ∈ ch_GL, w.before #[.ref b] s = true := fun w hw => hts w (ch_GLt hw)
  by_cases hc : ci < 14
  · rcases (show ci = 0 ∨ ci = 1 ∨ ci = 2 ∨ ci = 3 ∨ ci = 4 ∨ ci = 5 ∨ ci = 6 ∨ ci = 7 ∨ ci = 8 ∨ ci = 9 ∨ ci = 10 ∨ ci = 11 ∨ ci = 12 ∨ ci = 13 by omega) with rfl | rfl | rfl | rfl | rfl | rfl | rfl | rfl | rfl | rfl | rfl | rfl | rfl | rfl
    · obtain ⟨cC, iS, h⟩ := u_known (T := TX0) (N := 9) hG li_X0 (hG _ kw_80); exact ⟨(cC, iS), fun r hr => by cases hr; exact h⟩
    · obtain ⟨cC, iS, h⟩ := u_known (T := TX1) (N := 3) hG li_X1 (hG _ kw_309); exact ⟨(cC, iS), fun r hr => by cases hr; exact h⟩
    · obtain ⟨cC, iS, h⟩ := u_known (T := TX2) (N := 13) hG li_X2 (hG _ kw_159); exact ⟨(cC, iS), fun r hr => by cases hr; exact h⟩
    · obtain ⟨cC, iS, h⟩ := u_known (T := TX3) (N := 17) hG li_X3 (hG _ kw_69); exact ⟨(cC, iS), fun r hr => by cases hr; exact h⟩
    · obtain ⟨cC, iS, h⟩ := u_known (T := TX4) (N := 2) hG li_X4 (hG _ kw_955); exact ⟨(cC, iS), fun r hr => by cases hr; exact h⟩
    · obtain ⟨cC, iS, h⟩ := u_known (T := TX4) (N := 2) hG li_X4 (hG _ kw_955); exact ⟨(cC, iS), fun r hr => by cases hr; exact h⟩
    · obtain ⟨cC, iS, h⟩ := u_known (T := TX6) (N := 4) hG li_X6 (hG _ kw_335); exact ⟨(cC, iS), fun r hr => by cases hr; exact h⟩
    · obtain ⟨cC, iS, h⟩ := u_known (T := TX7) (N := 4) hG li_X7 (hG _ kw_129); exact ⟨(cC, iS), fun r hr => by cases hr; exact h⟩
    · obtain ⟨cC, iS, h⟩ := u_known (T := TX8) (N := 1) hG li_X8 (hG _ kw_329); exact ⟨(cC, iS), fun r hr => by cases hr; exact h⟩
    · obtain ⟨cC, iS, h⟩ := u_known (T := TX9) (N := 1) hG li_X9 (hG _ kw_360); exact ⟨(cC, iS), fun r hr => by cases hr; exact h⟩
    · obtain ⟨cC, iS, h⟩ := u_known (T := TX10) (N := 8) hG li_X10 (hG _ kw_35); exact ⟨(cC, iS), fun r hr => by cases hr; exact h⟩
    · obtain ⟨cC, iS, h⟩ := u_known (T := TX11) (N := 8) hG li_X11 (hG _ kw_27); exact ⟨(cC, iS), fun r hr => by cases hr; exact h⟩
    · obtain ⟨cC, iS, h⟩ := u_known (T := TX12) (N := 13) hG li_X12 (hG _ kw_739); exact ⟨(cC, iS), fun r hr => by cases hr; exact h⟩
    · obtain ⟨cC, iS, h⟩ := u_known (T := TX13) (N := 16) hG li_X13 (hG _ kw_728); exact ⟨(cC, iS), fun r hr => by cases hr; exact h⟩
  · refine ⟨(0, fun _ => 0), fun r hr => ?_⟩
    have := (List.getElem?_eq_some_iff.mp hr).1
    exact absurd this (by show ¬ ci < 14; exact hc)
theorem ofN_x (x : Int32) : Int32.ofNat x.toBitVec.toNat = x := by
  apply Int32.toBitVec_inj.mp
  rw [Int32.toBitVec_ofNat']
  simp
theorem ch_given {s : State} {b L : Nat} {xs : Nat → Int32} (hX : va_X b L xs s s.heap) (hbl : b < s.heap.size) (hL : L ≤ 260) (hts : ∀ w ∈ lw_tbl, w.before #[.ref b] s = true) (hg : (Cond.and given_1 narrow_1).before #[.ref b] s = true) : ∃ E : ch_E, E.1 = s.heap.size ∧ ch_sb E = b ∧ ch_T E s := by
  have hF : ∀ c ∈ ch_fl, c.before #[.ref b] s = true := flat_of_before _ hg
  have hA : ∀ a : Nat, a < s.heap.size → ¬ (s.heap.size ≤ a) := fun a h => Nat.not_le.mpr h
  obtain ⟨adK, adV, hS, hev⟩ := gv_str hF (A := fun q => s.heap.size ≤ q) hA
  obtain ⟨ar, har⟩ := Classical.axiomOfChoice (gv_arr hts)
  obtain ⟨cl, hcl⟩ := Classical.axiomOfChoice (gv_cls hts)
  refine ⟨(s.heap.size, (fun i => (cl i).1, fun i => (cl i).2), ar, adK, (fun i => if i < 8 then adV i else if i = 8 then b else if i = 9 then L else (xs (i - 10)).toBitVec.toNat)), rfl, rfl, ⟨fun c q hq => hcl c q hq, fun k q hk => ?_⟩, ⟨gv_ao hts, gv_aoi hts⟩, gv_R hts hF hev, ⟨fun i hi => by
    have e : (fun i => if i < 8 then adV i else if i = 8 then b else if i = 9 then L else (xs (i - 10)).toBitVec.toNat) i = adV i := if_pos hi
    show _ ∧ _ ∧ va_OF _ _ _ (.ref ((fun i => if i < 8 then adV i else if i = 8 then b else if i = 9 then L else (xs (i - 10)).toBitVec.toNat) i)) _ _ _ _ ∧ va_T _ ((fun i => if i < 8 then adV i else if i = 8 then b else if i = 9 then L else (xs (i - 10)).toBitVec.toNat) i) _ _ _ _ _
    rw [e]; exact hS.1 i hi, hS.2⟩, va_Zof (hts _ kb_873) (hts _ (ch_GLt kw_19)) (va_eqi (hF _ (show Cond.eq (.static "java/lang/String" "COMPACT_STRINGS" "Z") (.int 1) ∈ ch_fl by decide +kernel))) hA,
    vx_Zqof (hts _ kb_440) (hts _ (ch_GLt kw_11)) (hF _ (show Cond.isRef (.static "java/lang/Throwable" "UNASSIGNED_STACK" "[Ljava/lang/StackTraceElement;") ∈ ch_fl by decide +kernel)) hA,
    vx_Zqof (hts _ kb_442) (hts _ (ch_GLt kw_11)) (hF _ (show Cond.isRef (.static "java/lang/Throwable" "SUPPRESSED_SENTINEL" "Ljava/util/List;") ∈ ch_fl by decide +kernel)) hA,
    ⟨gv_nest hts, gv_nfl hts⟩, gv_cast hts, gv_decl hts, gv_nca hF, va_Zqof (hts _ kb_889) (hts _ (ch_GLt kw_21)) (hF _ (show Cond.isRef (.static "jdk/internal/util/Preconditions" "SIOOBE_FORMATTER" "Ljava/util/function/BiFunction;") ∈ ch_fl by decide +kernel)) hA, by
      have ex : (fun j => Int32.ofNat (if 8 + 2 + j < 8 then adV (8 + 2 + j) else if 8 + 2 + j = 8 then b else if 8 + 2 + j = 9 then L else (xs (8 + 2 + j - 10)).toBitVec.toNat)) = xs := by
        funext j
        rw [if_neg (by omega), if_neg (by omega), if_neg (by omega), show 8 + 2 + j - 10 = j by omega, ofN_x]
      refine ⟨?_, hbl, hL⟩
      show va_X b L (fun j => Int32.ofNat (if 8 + 2 + j < 8 then adV (8 + 2 + j) else if 8 + 2 + j = 8 then b else if 8 + 2 + j = 9 then L else (xs (8 + 2 + j - 10)).toBitVec.toNat)) s s.heap
      rw [ex]
      exact hX⟩
  have hk7 : k < 7 := (List.getElem?_eq_some_iff.mp hk).1
  have e : (ch_tys (s.heap.size, (fun i => (cl i).1, fun i => (cl i).2), ar, adK, (fun i => if i < 8 then adV i else if i = 8 then b else if i = 9 then L else (xs (i - 10)).toBitVec.toNat)))[k]? = some (ar k, ch_ty k) := by
    rcases (show k = 0 ∨ k = 1 ∨ k = 2 ∨ k = 3 ∨ k = 4 ∨ k = 5 ∨ k = 6 by omega) with rfl | rfl | rfl | rfl | rfl | rfl | rfl <;> rfl
  cases e.symm.trans hk
  exact har k hk7
