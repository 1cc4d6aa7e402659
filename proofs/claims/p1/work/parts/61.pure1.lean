-- calls whose argument decides
set_option maxHeartbeats 2000000 in
set_option maxRecDepth 100000 in
theorem pu_17 (xs : Nat → Int32) : ∃ c0 v0 : Int32, (wpVX7_ageOf (fun X : String => (X = "java/lang/IndexOutOfBoundsException" ∧ c0 = 1)) (xs 1) pt_M0 (fun (r : Int32) (_ : pt_M) => c0 = 0 ∧ r = v0)) ∧ (wpX12_ageOf (xs 1) pz_M0 (fun (r : Int32) (M : pt_M) => M 0 0 = c0 ∧ (c0 = 0 → r = v0))) := by
  by_cases h : xs 1 = 0
  · refine ⟨0, (-1), ?_, ?_⟩
    · simp [wpVX7_ageOf, e_cs e_m13, e_ct e_m14, e_cr e_m04, e_k0, e_k1, e_k125, e_k126, e_k127, e_k128, e_k129, e_k130, e_k141, e_k142, e_in0, e_in1, e_00, e_0m, e_m13, e_m14, e_m04, e_m5, e_ps, e_v20, pz_M0, pt_st, pt_zb, h]
    · simp [wpX12_ageOf, wpX12_isNoState, wpX12_start, wpX12_age, wjX12_ageOf_22, wpJx4a65c_size_8abf5, wjX12_isNoState_25, wpX12_refuse, wpX12_has, wjX12_age_27, wjX12_refuse_16, wjX12_has_14, wjX12_refuse_28, e_k0, e_k1, e_k125, e_k126, e_k127, e_k128, e_k129, e_k130, e_k141, e_k142, e_in0, e_in1, e_00, e_0m, e_m13, e_m14, e_m04, e_m5, e_ps, e_v20, pz_M0, pt_st, pt_zb, h]
  · refine ⟨1, 0, ?_, ?_⟩
    · simp [wpVX7_ageOf, e_cs e_m13, e_ct e_m14, e_cr e_m04, e_k0, e_k1, e_k125, e_k126, e_k127, e_k128, e_k129, e_k130, e_k141, e_k142, e_in0, e_in1, e_00, e_0m, e_m13, e_m14, e_m04, e_m5, e_ps, e_v20, pz_M0, pt_st, pt_zb, h]
    · simp [wpX12_ageOf, wpX12_isNoState, wpX12_start, wpX12_age, wjX12_ageOf_22, wpJx4a65c_size_8abf5, wjX12_isNoState_25, wpX12_refuse, wpX12_has, wjX12_age_27, wjX12_refuse_16, wjX12_has_14, wjX12_refuse_28, e_k0, e_k1, e_k125, e_k126, e_k127, e_k128, e_k129, e_k130, e_k141, e_k142, e_in0, e_in1, e_00, e_0m, e_m13, e_m14, e_m04, e_m5, e_ps, e_v20, pz_M0, pt_st, pt_zb, h]
set_option maxHeartbeats 2000000 in
set_option maxRecDepth 100000 in
theorem pu_18 (xs : Nat → Int32) : ∃ c0 v0 : Int32, (wpVX7_record (fun X : String => (X = "java/lang/IndexOutOfBoundsException" ∧ c0 = 1) ∨ (X = "java/lang/IllegalArgumentException" ∧ c0 = 2)) (xs 1) pt_M0 (fun (r : Int32) (_ : pt_M) => c0 = 0 ∧ r = v0)) ∧ (wpX12_record (xs 1) pz_M0 (fun (r : Int32) (M : pt_M) => M 0 0 = c0 ∧ (c0 = 0 → r = v0))) := by
  by_cases h : xs 1 = 0
  · refine ⟨2, 0, ?_, ?_⟩
    · simp [wpVX7_record, wpX5_isMark, wjX5_isMark_16, wjX5_isMark_21, e_cs e_m13, e_ct e_m14, e_cr e_m04, e_k0, e_k1, e_k125, e_k126, e_k127, e_k128, e_k129, e_k130, e_k141, e_k142, e_in0, e_in1, e_00, e_0m, e_m13, e_m14, e_m04, e_m5, e_ps, e_v20, pz_M0, pt_st, pt_zb, h]
    · simp [wpX12_record, wpX12_isNoState, wpX12_start, wjX12_record_46, wpJx4a65c_get_915e3, wpX10_isMark, wjX12_record_39, wpJx4a65c_size_8abf5, wjX12_isNoState_25, wpX12_refuse, wjX12_record_59, wpPJ15_checkIndex, wpJx4a65c_elementData_915e3, wjX10_isMark_13, wjX12_refuse_16, wpPJ3_checkIndex, wjX12_refuse_28, wjPJ3_checkIndex_9, e_k0, e_k1, e_k125, e_k126, e_k127, e_k128, e_k129, e_k130, e_k141, e_k142, e_in0, e_in1, e_00, e_0m, e_m13, e_m14, e_m04, e_m5, e_ps, e_v20, pz_M0, pt_st, pt_zb, h]
  · refine ⟨1, 0, ?_, ?_⟩
    · simp [wpVX7_record, wpX5_isMark, wjX5_isMark_16, wjX5_isMark_21, e_cs e_m13, e_ct e_m14, e_cr e_m04, e_k0, e_k1, e_k125, e_k126, e_k127, e_k128, e_k129, e_k130, e_k141, e_k142, e_in0, e_in1, e_00, e_0m, e_m13, e_m14, e_m04, e_m5, e_ps, e_v20, pz_M0, pt_st, pt_zb, h]
    · simp [wpX12_record, wpX12_isNoState, wpX12_start, wjX12_record_46, wpJx4a65c_get_915e3, wpX10_isMark, wjX12_record_39, wpJx4a65c_size_8abf5, wjX12_isNoState_25, wpX12_refuse, wjX12_record_59, wpPJ15_checkIndex, wpJx4a65c_elementData_915e3, wjX10_isMark_13, wjX12_refuse_16, wpPJ3_checkIndex, wjX12_refuse_28, wjPJ3_checkIndex_9, e_k0, e_k1, e_k125, e_k126, e_k127, e_k128, e_k129, e_k130, e_k141, e_k142, e_in0, e_in1, e_00, e_0m, e_m13, e_m14, e_m04, e_m5, e_ps, e_v20, pz_M0, pt_st, pt_zb, h]
set_option maxHeartbeats 2000000 in
set_option maxRecDepth 100000 in
theorem pu_21 (xs : Nat → Int32) : ∃ c0 v0 : Int32, (wpVX7_fired (fun X : String => (X = "java/lang/IndexOutOfBoundsException" ∧ c0 = 1)) (xs 1) pt_M0 (fun (r : Int32) (_ : pt_M) => c0 = 0 ∧ r = v0)) ∧ (wpX12_fired (xs 1) pz_M0 (fun (r : Int32) (M : pt_M) => M 0 0 = c0 ∧ (c0 = 0 → r = v0))) := by
  refine ⟨1, 0, ?_, ?_⟩
  · simp [wpVX7_fired, e_cs e_m13, e_ct e_m14, e_cr e_m04, e_k0, e_k1, e_k125, e_k126, e_k127, e_k128, e_k129, e_k130, e_k141, e_k142, e_in0, e_in1, e_00, e_0m, e_m13, e_m14, e_m04, e_m5, e_ps, e_v20, pz_M0, pt_st, pt_zb]
  · simp [wpX12_fired, wpX12_isNoTransition, wpX12_start, wjX12_fired_26, wpJx4a65c_size_8abf5, wjX12_isNoTransition_25, wpX12_refuse, wjX12_refuse_16, wjX12_refuse_28, e_k0, e_k1, e_k125, e_k126, e_k127, e_k128, e_k129, e_k130, e_k141, e_k142, e_in0, e_in1, e_00, e_0m, e_m13, e_m14, e_m04, e_m5, e_ps, e_v20, pz_M0, pt_st, pt_zb]
set_option maxHeartbeats 2000000 in
set_option maxRecDepth 100000 in
theorem pu_4 (xs : Nat → Int32) : ∃ c0 v0 : Int32, (wpVX7_setGuard (fun X : String => (X = "java/lang/IllegalStateException" ∧ c0 = 1) ∨ (X = "java/lang/IndexOutOfBoundsException" ∧ c0 = 2) ∨ (X = "java/lang/IllegalArgumentException" ∧ c0 = 3)) (xs 1) (xs 2) (xs 3) (xs 4) pt_M0 (fun (r : Int32) (_ : pt_M) => c0 = 0 ∧ r = v0)) ∧ (wpX12_setGuard (xs 1) (xs 2) (xs 3) (xs 4) pz_M0 (fun (r : Int32) (M : pt_M) => M 0 0 = c0 ∧ (c0 = 0 → r = v0))) := by
  refine ⟨2, 0, ?_, ?_⟩
  · simp [wpVX7_setGuard, wpX7_isGuard, wjX7_isGuard_35, wpX7_isNumber, wjX7_isGuard_36, e_cs e_m13, e_ct e_m14, e_cr e_m04, e_k0, e_k1, e_k125, e_k126, e_k127, e_k128, e_k129, e_k130, e_k141, e_k142, e_in0, e_in1, e_00, e_0m, e_m13, e_m14, e_m04, e_m5, e_ps, e_v20, pz_M0, pt_st, pt_zb]
  · simp [wpX12_setGuard, wpX12_start, wjX12_setGuard_75, wpX12_isNoTransition, wpX12_refuse, wjX12_setGuard_63, wjX12_setGuard_67, wpJx4a65c_size_8abf5, wjX12_isNoTransition_25, wjX12_refuse_16, wjX12_setGuard_68, wjX12_refuse_28, e_k0, e_k1, e_k125, e_k126, e_k127, e_k128, e_k129, e_k130, e_k141, e_k142, e_in0, e_in1, e_00, e_0m, e_m13, e_m14, e_m04, e_m5, e_ps, e_v20, pz_M0, pt_st, pt_zb]
    exact fun h1 h2 => (e_0m ⟨h1, h2⟩).elim
set_option maxHeartbeats 2000000 in
set_option maxRecDepth 100000 in
theorem pu_5 (xs : Nat → Int32) : ∃ c0 v0 : Int32, (wpVX7_setAction (fun X : String => (X = "java/lang/IllegalStateException" ∧ c0 = 1) ∨ (X = "java/lang/IndexOutOfBoundsException" ∧ c0 = 2) ∨ (X = "java/lang/IllegalArgumentException" ∧ c0 = 3)) (xs 1) (xs 2) (xs 3) (xs 4) pt_M0 (fun (r : Int32) (_ : pt_M) => c0 = 0 ∧ r = v0)) ∧ (wpX12_setAction (xs 1) (xs 2) (xs 3) (xs 4) pz_M0 (fun (r : Int32) (M : pt_M) => M 0 0 = c0 ∧ (c0 = 0 → r = v0))) := by
  refine ⟨2, 0, ?_, ?_⟩
  · simp [wpVX7_setAction, wpX7_isAction, wpX0_become, wjX7_isAction_48, wpX7_isNumber, wjX7_isAction_49, e_cs e_m13, e_ct e_m14, e_cr e_m04, e_k0, e_k1, e_k125, e_k126, e_k127, e_k128, e_k129, e_k130, e_k141, e_k142, e_in0, e_in1, e_00, e_0m, e_m13, e_m14, e_m04, e_m5, e_ps, e_v20, pz_M0, pt_st, pt_zb]
  · simp [wpX12_setAction, wpX12_start, wjX12_setAction_43, wpX12_isNoTransition, wpX12_refuse, wpX12_isNoAction, wpJx4a65c_size_8abf5, wjX12_isNoTransition_25, wjX12_refuse_16, wjX12_isNoAction_54, wjX12_isNoAction_19, wjX12_isNoAction_39, wjX12_refuse_28, wjX12_isNoAction_59, wjX12_isNoAction_58, e_k0, e_k1, e_k125, e_k126, e_k127, e_k128, e_k129, e_k130, e_k141, e_k142, e_in0, e_in1, e_00, e_0m, e_m13, e_m14, e_m04, e_m5, e_ps, e_v20, pz_M0, pt_st, pt_zb]
    exact fun h1 h2 => (e_0m ⟨h1, h2⟩).elim
set_option maxHeartbeats 2000000 in
set_option maxRecDepth 100000 in
theorem pu_19 (xs : Nat → Int32) : ∃ c0 v0 : Int32, (wpVX7_variable (fun X : String => (X = "java/lang/IndexOutOfBoundsException" ∧ c0 = 1)) (xs 1) pt_M0 (fun (r : Int32) (_ : pt_M) => c0 = 0 ∧ r = v0)) ∧ (wpX12_variable (xs 1) pz_M0 (fun (r : Int32) (M : pt_M) => M 0 0 = c0 ∧ (c0 = 0 → r = v0))) := by
  by_cases h : 0 ≤ xs 1 ∧ xs 1 ≤ 3
  · refine ⟨0, 0, ?_, ?_⟩
    · simp [wpVX7_variable, e_k0, e_k1, e_k125, e_k126, e_k127, e_k128, e_k129, e_k130, e_k141, e_k142, e_in0, e_in1, e_00, e_0m, e_m13, e_m14, e_m04, e_m5, e_ps, e_v20, pz_M0, pt_st, pt_zb, h, e_v4 h]
    · simp [wpX12_variable, wjX12_variable_15, wpX12_start, wjX12_variable_35, wpX12_refuse, wjX12_refuse_16, wjX12_refuse_28, e_k0, e_k1, e_k125, e_k126, e_k127, e_k128, e_k129, e_k130, e_k141, e_k142, e_in0, e_in1, e_00, e_0m, e_m13, e_m14, e_m04, e_m5, e_ps, e_v20, pz_M0, pt_st, pt_zb, h, e_v4 h]
  · refine ⟨1, 0, ?_, ?_⟩
    · simp [wpVX7_variable, e_k0, e_k1, e_k125, e_k126, e_k127, e_k128, e_k129, e_k130, e_k141, e_k142, e_in0, e_in1, e_00, e_0m, e_m13, e_m14, e_m04, e_m5, e_ps, e_v20, pz_M0, pt_st, pt_zb, h]
    · simp [wpX12_variable, wjX12_variable_15, wpX12_start, wjX12_variable_35, wpX12_refuse, wjX12_refuse_16, wjX12_refuse_28, e_k0, e_k1, e_k125, e_k126, e_k127, e_k128, e_k129, e_k130, e_k141, e_k142, e_in0, e_in1, e_00, e_0m, e_m13, e_m14, e_m04, e_m5, e_ps, e_v20, pz_M0, pt_st, pt_zb, h]
