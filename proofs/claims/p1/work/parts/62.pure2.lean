-- loops of one round; arguments that decide by cases
theorem e_toI {p q : Int32} : p = q ↔ p.toInt = q.toInt := Int32.toInt_inj.symm
theorem e_r12 {p : Int32} : (1 ≤ p ∧ p ≤ 2) ↔ (p = 1 ∨ p = 2) := by
  constructor
  · rintro ⟨h1, h2⟩
    have g1 : (1 : Int32).toInt ≤ p.toInt := Int32.le_iff_toInt_le.mp h1
    have g2 : p.toInt ≤ (2 : Int32).toInt := Int32.le_iff_toInt_le.mp h2
    have a1 : (1 : Int32).toInt = 1 := rfl
    have a2 : (2 : Int32).toInt = 2 := rfl
    rcases (show p.toInt = 1 ∨ p.toInt = 2 by omega) with h | h
    · exact Or.inl (e_toI.mpr (h.trans a1.symm))
    · exact Or.inr (e_toI.mpr (h.trans a2.symm))
  · rintro (h | h) <;> subst h <;> decide
theorem e_r03 {p : Int32} : (0 ≤ p ∧ p ≤ 3) ↔ (p = 0 ∨ p = 1 ∨ p = 2 ∨ p = 3) := by
  constructor
  · rintro ⟨h1, h2⟩
    have g1 : (0 : Int32).toInt ≤ p.toInt := Int32.le_iff_toInt_le.mp h1
    have g2 : p.toInt ≤ (3 : Int32).toInt := Int32.le_iff_toInt_le.mp h2
    have a0 : (0 : Int32).toInt = 0 := rfl
    have a1 : (1 : Int32).toInt = 1 := rfl
    have a2 : (2 : Int32).toInt = 2 := rfl
    have a3 : (3 : Int32).toInt = 3 := rfl
    rcases (show p.toInt = 0 ∨ p.toInt = 1 ∨ p.toInt = 2 ∨ p.toInt = 3 by omega) with h | h | h | h
    · exact Or.inl (e_toI.mpr (h.trans a0.symm))
    · exact Or.inr (Or.inl (e_toI.mpr (h.trans a1.symm)))
    · exact Or.inr (Or.inr (Or.inl (e_toI.mpr (h.trans a2.symm))))
    · exact Or.inr (Or.inr (Or.inr (e_toI.mpr (h.trans a3.symm))))
  · rintro (h | h | h | h) <;> subst h <;> decide
theorem e_r13 {p : Int32} : (1 ≤ p ∧ p ≤ 3) ↔ (p = 1 ∨ p = 2 ∨ p = 3) := by
  constructor
  · rintro ⟨h1, h2⟩
    have h0 : 0 ≤ p := Int32.le_trans (by decide) h1
    rcases e_r03.mp ⟨h0, h2⟩ with h | h
    · subst h; exact absurd h1 (by decide)
    · exact h
  · rintro (h | h | h) <;> subst h <;> decide
/-- the parts of the root of a fresh automaton: none -/
theorem e_parts {M : pt_M} {Q : Int32 → pt_M → Prop} (h2 : M 2 2 = 1) (h4 : M 4 0 = -1) (h : Q 0 M) : wpX8_parts 0 M Q := by
  refine ⟨2, ?_⟩
  simp [lpX8_parts_4, lbX8_parts_4, wpJx4a65c_size_8abf5, wpX8_parent, wpJx4a65c_get_915e3, wpPJ15_checkIndex, wpPJ3_checkIndex, wpJx4a65c_elementData_915e3, wjX8_parts_47, h2, h4, h]
set_option maxHeartbeats 2000000 in
set_option maxRecDepth 100000 in
theorem pu_15 (xs : Nat → Int32) : ∃ v0 : Int32, (wpX7_isOver pt_M0 (fun (r : Int32) (_ : pt_M) => r = v0)) ∧ (wpX12_isOver pz_M0 (fun (r : Int32) (_ : pt_M) => r = v0)) := by
  refine ⟨0, ?_, ?_⟩
  · simp [wpX7_isOver, wjX7_isOver_21, wjX7_isOver_22, e_k0, e_k1, e_k125, e_k126, e_k127, e_k128, e_k129, e_k130, e_k141, e_k142, e_in0, e_in1, e_00, e_0m, e_m13, e_m14, e_m04, e_m5, e_ps, e_v20, pz_M0, pt_st, pt_zb]
  · simp [wpX12_isOver, wjX12_isOver_29, wjX12_isOver_30, e_k0, e_k1, e_k125, e_k126, e_k127, e_k128, e_k129, e_k130, e_k141, e_k142, e_in0, e_in1, e_00, e_0m, e_m13, e_m14, e_m04, e_m5, e_ps, e_v20, pz_M0, pt_st, pt_zb]
theorem e_cov {M : pt_M} {Q : Int32 → pt_M → Prop} (hM : M 10 = fun _ => 0) (h : Q 0 M) : ∀ d : Nat, d ≤ 30 → lpX12_covers_4 Q (d + 1) 0 (nI (30 - d)) M := by
  intro d
  induction d with
  | zero =>
    intro _
    refine ⟨fun _ => h, fun hc => absurd (show (30 : Int32) ≤ nI (30 - 0) from by decide) hc⟩
  | succ d ih =>
    intro hd
    have h1 : ¬ (30 : Int32) ≤ nI (30 - (d + 1)) := nI_ge (b := 30) (by omega) (by omega)
    refine ⟨fun hc => absurd hc h1, fun _ => ⟨vp_in_nI (by omega) (by omega), ?_⟩⟩
    rw [hM]
    refine ⟨fun _ => ?_, fun hc => absurd (show (0 : Int32) ≤ 0 from by decide) hc⟩
    unfold wjX12_covers_28
    intro x1 e1 x2 e2
    have e3 : x1 = 0 := by rw [e1]; rfl
    have e4 : x2 = nI (30 - d) := by rw [e2, nI_1, show 30 - (d + 1) + 1 = 30 - d by omega]
    rw [e3, e4]
    exact ih (by omega)
set_option maxHeartbeats 2000000 in
set_option maxRecDepth 100000 in
theorem pu_22 (xs : Nat → Int32) : ∃ v0 : Int32, (wpX7_covered pt_M0 (fun (r : Int32) (_ : pt_M) => r = v0)) ∧ (wpX12_covered pz_M0 (fun (r : Int32) (_ : pt_M) => r = v0)) := by
  refine ⟨0, ⟨1, ?_⟩, ⟨31, e_cov rfl ?_ 30 (by omega)⟩⟩
  · simp [lpX7_covered_4, lbX7_covered_4, e_k0, e_k1, e_k125, e_k126, e_k127, e_k128, e_k129, e_k130, e_k141, e_k142, e_in0, e_in1, e_00, e_0m, e_m13, e_m14, e_m04, e_m5, e_ps, e_v20, pz_M0, pt_st, pt_zb]
  · simp [wpX12_plain, e_k0, e_k1, e_k125, e_k126, e_k127, e_k128, e_k129, e_k130, e_k141, e_k142, e_in0, e_in1, e_00, e_0m, e_m13, e_m14, e_m04, e_m5, e_ps, e_v20, pz_M0, pt_st, pt_zb]
set_option maxHeartbeats 2000000 in
set_option maxRecDepth 100000 in
theorem pu_32 (xs : Nat → Int32) : ∃ v0 : UInt64, (wpX7_meanAge pt_M0 (fun (r : UInt64) (_ : pt_M) => r = v0)) ∧ (wpX12_meanAge pz_M0 (fun (r : UInt64) (_ : pt_M) => r = v0)) := by
  refine ⟨0, ?_, ?_⟩
  · skip
    repeat' first
        | (refine ⟨by unfold vp_in; decide +kernel, ?_⟩)
        | (refine ⟨by unfold pt_zb; decide +kernel, ?_⟩)
        | (refine ⟨fun hc => absurd hc (by decide +kernel), fun _ => ?_⟩)
        | (refine ⟨fun _ => ?_, fun hc => absurd hc (by decide +kernel)⟩)
        | (refine ⟨by decide +kernel, ?_⟩)
        | (refine ⟨64, ?_⟩)
        | (refine fun x e => ?_; subst e)
        | decide +kernel
        | (refine fun q => ?_)
  · simp only [wpX12_meanAge]
    intro M2 e2
    refine ⟨2, ?_⟩
    subst e2
    simp [lpX12_meanAge_9, lbX12_meanAge_9, wpJx4a65c_size_8abf5, wpPJ6_bitCount, wjX12_meanAge_87, wpX12_has, wjX12_meanAge_51, wjX12_has_14, e_k0, e_k1, e_k125, e_k126, e_k127, e_k128, e_k129, e_k130, e_k141, e_k142, e_in0, e_in1, e_00, e_0m, e_m13, e_m14, e_m04, e_m5, e_ps, e_v20, pz_M0, pt_st, pt_zb]
set_option maxHeartbeats 2000000 in
set_option maxRecDepth 100000 in
theorem pu_12 (xs : Nat → Int32) : ∃ c0 v0 : Int32, (wpVX7_ofState (fun X : String => (X = "java/lang/IndexOutOfBoundsException" ∧ c0 = 1) ∨ (X = "java/lang/IllegalArgumentException" ∧ c0 = 2)) (xs 1) (xs 2) pt_M0 (fun (r : Int32) (_ : pt_M) => c0 = 0 ∧ r = v0)) ∧ (wpX12_ofState (xs 1) (xs 2) pz_M0 (fun (r : Int32) (M : pt_M) => M 0 0 = c0 ∧ (c0 = 0 → r = v0))) := by
  by_cases h : xs 1 = 0
  · by_cases h3 : 0 ≤ xs 2 ∧ xs 2 ≤ 3
    · rcases e_r03.mp h3 with g | g | g | g
      · refine ⟨0, 0, ?_, ?_⟩
        · simp [wpVX7_ofState, wpJ6_bitCount_0f7a4, e_cs e_m13, e_k0, e_k1, e_k125, e_k126, e_k127, e_k128, e_k129, e_k130, e_k141, e_k142, e_in0, e_in1, e_00, e_0m, e_m13, e_m14, e_m04, e_m5, e_ps, e_v20, pz_M0, pt_st, pt_zb, h, g]
        · simp [wpX12_ofState, wpX12_isNoState, wpX12_start, wjX12_ofState_35, wjX12_ofState_28, wpJx4a65c_size_8abf5, wjX12_isNoState_25, wpX12_refuse, wjX12_ofState_45, wpX12_of, wjX12_refuse_16, wpPJ6_bitCount, wjX12_of_58, wpX8_first, wpX8_parent, wpX8_kind, wjX12_refuse_28, wjX8_first_16, wpJx4a65c_get_915e3, wpPJ15_checkIndex, wpJx4a65c_elementData_915e3, wpX10_isMark, wpPJ3_checkIndex, wjX10_isMark_13, wjPJ3_checkIndex_9, e_k0, e_k1, e_k125, e_k126, e_k127, e_k128, e_k129, e_k130, e_k141, e_k142, e_in0, e_in1, e_00, e_0m, e_m13, e_m14, e_m04, e_m5, e_ps, e_v20, pz_M0, pt_st, pt_zb, h, g, e_parts]
      · refine ⟨0, (-1), ?_, ?_⟩
        · simp [wpVX7_ofState, wpJ6_bitCount_0f7a4, e_cs e_m13, e_k0, e_k1, e_k125, e_k126, e_k127, e_k128, e_k129, e_k130, e_k141, e_k142, e_in0, e_in1, e_00, e_0m, e_m13, e_m14, e_m04, e_m5, e_ps, e_v20, pz_M0, pt_st, pt_zb, h, g]
        · simp [wpX12_ofState, wpX12_isNoState, wpX12_start, wjX12_ofState_35, wjX12_ofState_28, wpJx4a65c_size_8abf5, wjX12_isNoState_25, wpX12_refuse, wjX12_ofState_45, wpX12_of, wjX12_refuse_16, wpPJ6_bitCount, wjX12_of_58, wpX8_first, wpX8_parent, wpX8_kind, wjX12_refuse_28, wjX8_first_16, wpJx4a65c_get_915e3, wpPJ15_checkIndex, wpJx4a65c_elementData_915e3, wpX10_isMark, wpPJ3_checkIndex, wjX10_isMark_13, wjPJ3_checkIndex_9, e_k0, e_k1, e_k125, e_k126, e_k127, e_k128, e_k129, e_k130, e_k141, e_k142, e_in0, e_in1, e_00, e_0m, e_m13, e_m14, e_m04, e_m5, e_ps, e_v20, pz_M0, pt_st, pt_zb, h, g, e_parts]
      · refine ⟨0, (-1), ?_, ?_⟩
        · simp [wpVX7_ofState, wpJ6_bitCount_0f7a4, e_cs e_m13, e_k0, e_k1, e_k125, e_k126, e_k127, e_k128, e_k129, e_k130, e_k141, e_k142, e_in0, e_in1, e_00, e_0m, e_m13, e_m14, e_m04, e_m5, e_ps, e_v20, pz_M0, pt_st, pt_zb, h, g]
        · simp [wpX12_ofState, wpX12_isNoState, wpX12_start, wjX12_ofState_35, wjX12_ofState_28, wpJx4a65c_size_8abf5, wjX12_isNoState_25, wpX12_refuse, wjX12_ofState_45, wpX12_of, wjX12_refuse_16, wpPJ6_bitCount, wjX12_of_58, wpX8_first, wpX8_parent, wpX8_kind, wjX12_refuse_28, wjX8_first_16, wpJx4a65c_get_915e3, wpPJ15_checkIndex, wpJx4a65c_elementData_915e3, wpX10_isMark, wpPJ3_checkIndex, wjX10_isMark_13, wjPJ3_checkIndex_9, e_k0, e_k1, e_k125, e_k126, e_k127, e_k128, e_k129, e_k130, e_k141, e_k142, e_in0, e_in1, e_00, e_0m, e_m13, e_m14, e_m04, e_m5, e_ps, e_v20, pz_M0, pt_st, pt_zb, h, g, e_parts]
      · refine ⟨0, 0, ?_, ?_⟩
        · rw [h, g]
          repeat' first
              | (refine ⟨by unfold vp_in; decide +kernel, ?_⟩)
              | (refine ⟨by unfold pt_zb; decide +kernel, ?_⟩)
              | (refine ⟨fun hc => absurd hc (by decide +kernel), fun _ => ?_⟩)
              | (refine ⟨fun _ => ?_, fun hc => absurd hc (by decide +kernel)⟩)
              | (refine ⟨by decide +kernel, ?_⟩)
              | (refine ⟨64, ?_⟩)
              | (refine fun x e => ?_; subst e)
              | decide +kernel
              | (refine fun q => ?_)
        · rw [h, g]
          repeat' first
              | (refine ⟨by unfold vp_in; decide +kernel, ?_⟩)
              | (refine ⟨by unfold pt_zb; decide +kernel, ?_⟩)
              | (refine ⟨fun hc => absurd hc (by decide +kernel), fun _ => ?_⟩)
              | (refine ⟨fun _ => ?_, fun hc => absurd hc (by decide +kernel)⟩)
              | (refine ⟨by decide +kernel, ?_⟩)
              | (refine ⟨64, ?_⟩)
              | (refine fun x e => ?_; subst e)
              | decide +kernel
              | (refine fun q => ?_)
    · have g0 : ¬ xs 2 = 0 := fun q => h3 (e_r03.mpr (Or.inl q))
      have g1 : ¬ xs 2 = 1 := fun q => h3 (e_r03.mpr (Or.inr (Or.inl q)))
      have g2 : ¬ xs 2 = 2 := fun q => h3 (e_r03.mpr (Or.inr (Or.inr (Or.inl q))))
      have g3 : ¬ xs 2 = 3 := fun q => h3 (e_r03.mpr (Or.inr (Or.inr (Or.inr q))))
      refine ⟨2, 0, ?_, ?_⟩
      · simp [wpVX7_ofState, wpJ6_bitCount_0f7a4, e_cs e_m13, e_k0, e_k1, e_k125, e_k126, e_k127, e_k128, e_k129, e_k130, e_k141, e_k142, e_in0, e_in1, e_00, e_0m, e_m13, e_m14, e_m04, e_m5, e_ps, e_v20, pz_M0, pt_st, pt_zb, h, g0, g1, g2, g3]
      · simp [wpX12_ofState, wpX12_isNoState, wpX12_start, wjX12_ofState_35, wjX12_ofState_28, wpJx4a65c_size_8abf5, wjX12_isNoState_25, wpX12_refuse, wjX12_ofState_45, wpX12_of, wjX12_refuse_16, wpPJ6_bitCount, wjX12_of_58, wpX8_first, wpX8_parent, wpX8_kind, wjX12_refuse_28, wjX8_first_16, wpJx4a65c_get_915e3, wpPJ15_checkIndex, wpJx4a65c_elementData_915e3, wpX10_isMark, wpPJ3_checkIndex, wjX10_isMark_13, wjPJ3_checkIndex_9, e_k0, e_k1, e_k125, e_k126, e_k127, e_k128, e_k129, e_k130, e_k141, e_k142, e_in0, e_in1, e_00, e_0m, e_m13, e_m14, e_m04, e_m5, e_ps, e_v20, pz_M0, pt_st, pt_zb, h, h3]
  · refine ⟨1, 0, ?_, ?_⟩
    · simp [wpVX7_ofState, wpJ6_bitCount_0f7a4, e_cs e_m13, e_k0, e_k1, e_k125, e_k126, e_k127, e_k128, e_k129, e_k130, e_k141, e_k142, e_in0, e_in1, e_00, e_0m, e_m13, e_m14, e_m04, e_m5, e_ps, e_v20, pz_M0, pt_st, pt_zb, h]
    · simp [wpX12_ofState, wpX12_isNoState, wpX12_start, wjX12_ofState_35, wjX12_ofState_28, wpJx4a65c_size_8abf5, wjX12_isNoState_25, wpX12_refuse, wjX12_ofState_45, wpX12_of, wjX12_refuse_16, wpPJ6_bitCount, wjX12_of_58, wpX8_first, wpX8_parent, wpX8_kind, wjX12_refuse_28, wjX8_first_16, wpJx4a65c_get_915e3, wpPJ15_checkIndex, wpJx4a65c_elementData_915e3, wpX10_isMark, wpPJ3_checkIndex, wjX10_isMark_13, wjPJ3_checkIndex_9, e_k0, e_k1, e_k125, e_k126, e_k127, e_k128, e_k129, e_k130, e_k141, e_k142, e_in0, e_in1, e_00, e_0m, e_m13, e_m14, e_m04, e_m5, e_ps, e_v20, pz_M0, pt_st, pt_zb, h]
set_option maxHeartbeats 2000000 in
set_option maxRecDepth 100000 in
theorem pu_1 (xs : Nat → Int32) : ∃ c0 v0 : Int32, (wpVX7_setFirst (fun X : String => (X = "java/lang/IllegalStateException" ∧ c0 = 1) ∨ (X = "java/lang/IndexOutOfBoundsException" ∧ c0 = 2) ∨ (X = "java/lang/IllegalArgumentException" ∧ c0 = 3)) (xs 1) (xs 2) pt_M0 (fun (r : Int32) (_ : pt_M) => c0 = 0 ∧ r = v0)) ∧ (wpX12_setFirst (xs 1) (xs 2) pz_M0 (fun (r : Int32) (M : pt_M) => M 0 0 = c0 ∧ (c0 = 0 → r = v0))) := by
  by_cases h : xs 1 = 0 ∧ xs 2 = 0
  · refine ⟨3, 0, ?_, ?_⟩
    · simp [wpVX7_setFirst, wjVX7_setFirst_42, wpX7_has, wpX5_putFirst, wjX7_has_13, wpX7_setOf, e_cs e_m13, e_cr e_m04, e_k0, e_k1, e_k125, e_k126, e_k127, e_k128, e_k129, e_k130, e_k141, e_k142, e_in0, e_in1, e_00, e_0m, e_m13, e_m14, e_m04, e_m5, e_ps, e_v20, pz_M0, pt_st, pt_zb, h.1, h.2]
    · simp [wpX12_setFirst, wpX12_start, wjX12_setFirst_83, wpX12_isNoState, wjX12_setFirst_32, wjX12_setFirst_37, wpX12_refuse, wpJx4a65c_size_8abf5, wjX12_isNoState_25, wpX8_kind, wjX12_setFirst_71, wpX12_has, wjX12_setFirst_76, wjX12_refuse_16, wpJx4a65c_get_915e3, wjX12_has_14, wpX8_first, wjX12_refuse_28, wpPJ15_checkIndex, wpJx4a65c_elementData_915e3, wjX8_first_16, wpPJ3_checkIndex, wpX8_parent, wpX10_isMark, wjPJ3_checkIndex_9, wjX10_isMark_13, e_k0, e_k1, e_k125, e_k126, e_k127, e_k128, e_k129, e_k130, e_k141, e_k142, e_in0, e_in1, e_00, e_0m, e_m13, e_m14, e_m04, e_m5, e_ps, e_v20, pz_M0, pt_st, pt_zb, h.1, h.2, e_parts]
  · refine ⟨2, 0, ?_, ?_⟩
    · by_cases h1 : xs 1 = 0
      · have h2 : ¬ xs 2 = 0 := fun q => h ⟨h1, q⟩
        simp [wpVX7_setFirst, wjVX7_setFirst_42, wpX7_has, wpX5_putFirst, wjX7_has_13, wpX7_setOf, e_cs e_m13, e_cr e_m04, e_k0, e_k1, e_k125, e_k126, e_k127, e_k128, e_k129, e_k130, e_k141, e_k142, e_in0, e_in1, e_00, e_0m, e_m13, e_m14, e_m04, e_m5, e_ps, e_v20, pz_M0, pt_st, pt_zb, h1, h2]
      · simp [wpVX7_setFirst, wjVX7_setFirst_42, wpX7_has, wpX5_putFirst, wjX7_has_13, wpX7_setOf, e_cs e_m13, e_cr e_m04, e_k0, e_k1, e_k125, e_k126, e_k127, e_k128, e_k129, e_k130, e_k141, e_k142, e_in0, e_in1, e_00, e_0m, e_m13, e_m14, e_m04, e_m5, e_ps, e_v20, pz_M0, pt_st, pt_zb, h1]
    · by_cases h1 : xs 1 = 0
      · have h2 : ¬ xs 2 = 0 := fun q => h ⟨h1, q⟩
        simp [wpX12_setFirst, wpX12_start, wjX12_setFirst_83, wpX12_isNoState, wjX12_setFirst_32, wjX12_setFirst_37, wpX12_refuse, wpJx4a65c_size_8abf5, wjX12_isNoState_25, wpX8_kind, wjX12_setFirst_71, wpX12_has, wjX12_setFirst_76, wjX12_refuse_16, wpJx4a65c_get_915e3, wjX12_has_14, wpX8_first, wjX12_refuse_28, wpPJ15_checkIndex, wpJx4a65c_elementData_915e3, wjX8_first_16, wpPJ3_checkIndex, wpX8_parent, wpX10_isMark, wjPJ3_checkIndex_9, wjX10_isMark_13, e_k0, e_k1, e_k125, e_k126, e_k127, e_k128, e_k129, e_k130, e_k141, e_k142, e_in0, e_in1, e_00, e_0m, e_m13, e_m14, e_m04, e_m5, e_ps, e_v20, pz_M0, pt_st, pt_zb, h1, h2]
        exact fun a b => absurd (e_00.mp ⟨a, b⟩) h2
      · simp [wpX12_setFirst, wpX12_start, wjX12_setFirst_83, wpX12_isNoState, wjX12_setFirst_32, wjX12_setFirst_37, wpX12_refuse, wpJx4a65c_size_8abf5, wjX12_isNoState_25, wpX8_kind, wjX12_setFirst_71, wpX12_has, wjX12_setFirst_76, wjX12_refuse_16, wpJx4a65c_get_915e3, wjX12_has_14, wpX8_first, wjX12_refuse_28, wpPJ15_checkIndex, wpJx4a65c_elementData_915e3, wjX8_first_16, wpPJ3_checkIndex, wpX8_parent, wpX10_isMark, wjPJ3_checkIndex_9, wjX10_isMark_13, e_k0, e_k1, e_k125, e_k126, e_k127, e_k128, e_k129, e_k130, e_k141, e_k142, e_in0, e_in1, e_00, e_0m, e_m13, e_m14, e_m04, e_m5, e_ps, e_v20, pz_M0, pt_st, pt_zb, h1]
        exact fun a b => absurd (e_00.mp ⟨a, b⟩) h1
theorem e_d6 : pt_M0 6 = fun _ => 0 := pt_M0z (by decide) (by decide +kernel) (by decide +kernel) (by decide +kernel)
theorem e_d7 : pt_M0 7 = fun _ => 0 := pt_M0z (by decide) (by decide +kernel) (by decide +kernel) (by decide +kernel)
