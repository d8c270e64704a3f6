/-! THE LAW: numbers drawn -/
theorem m_and (v : Int32) : ¬ (v &&& 2147483647) < 0 := by
  rw [Int32.lt_iff_toInt_lt]
  have h : (v &&& 2147483647).toBitVec.msb = false := by
    rw [Int32.toBitVec_and, BitVec.msb_and, show (2147483647 : Int32).toBitVec.msb = false by decide, Bool.and_false]
  have e : (v &&& 2147483647).toInt = ((v &&& 2147483647).toBitVec.toNat : Int) := BitVec.toInt_eq_toNat_of_msb h
  rw [e, show (0 : Int32).toInt = 0 by decide]
  omega
def a_md (x : Int32) (M : Nat) : Nat := Int32.toNatClampNeg (x &&& 2147483647) % M
theorem a_md_lt {x : Int32} {M : Nat} (h : 0 < M) : a_md x M < M := Nat.mod_lt _ h
theorem m_rem {x : Int32} {M : Nat} (h : 0 < M) (hM : M < 2 ^ 31) : (x &&& 2147483647) - (x &&& 2147483647) / nI M * nI M = nI (a_md x M) := by
  unfold a_md
  obtain ⟨q, hq, e⟩ := nI_of (m_and x)
  rw [e, nI_clamp hq, pk_div hq (by omega) hM, pk_mul, pk_sub (Nat.div_mul_le_self q M)]
  congr 1
  have := Nat.div_add_mod q M
  rw [Nat.mul_comm] at this
  omega
set_option maxHeartbeats 200000 in
theorem c_L_most {l : Launch} {E : ch_E} {S : ch_S} {μ : ch_M} {x : Int32} {M : Nat} (h0 : 0 < M) (hM : M < 2 ^ 31) : ch_C E l yL_most cL_most 2 (some FieldType.int) 1 0 0 S μ [.int x, .int (nI M)] (ch_F (some (.int (nI (a_md x M)))) S (μ)) := by
  refine ch_enter rfl rfl ?_
  intro X hl0 h hG hR hnm
  have h : ch_H X E RL cL_most 2 := h
  show ch_W X E 2 S μ 0 0 0 [(0, .int x), (1, .int (nI M))] []
  refine ca_iload_n h dL_most_0 rfl ?_
  refine ca_ldc h kw_780 dL_most_1 ?_
  refine ca_iand h dL_most_3 ?_
  refine ca_iload_n h dL_most_4 rfl ?_
  refine ca_irem h dL_most_5 (nI_ne0 h0 hM) ?_
  refine ca_top (y := nI (a_md x M)) (m_rem h0 hM) ?_
  refine ca_ireturn h hR rfl dL_most_6 ?_
  exact ⟨rfl, rfl, rfl⟩
