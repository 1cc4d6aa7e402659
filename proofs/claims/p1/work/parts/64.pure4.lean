-- isEnded
set_option maxHeartbeats 2000000 in
set_option maxRecDepth 100000 in
theorem e_ended {Q : Int32 → pt_M → Prop} (h : Q 0 pt_M0) : wpX1_endedAmong 0 pt_M0 Q := by
  unfold wpX1_endedAmong
  intro x3 e3
  have e0 : x3 = 0 := by rw [e3, e_m13]; rfl
  subst e0
  refine ⟨2, ?_⟩
  simp [lpX1_endedAmong_9, lbX1_endedAmong_9, wjX1_endedAmong_52, wjX1_endedAmong_53, wjX1_endedAmong_86, wjX1_endedAmong_87, wjX1_endedAmong_99, wjX1_endedAmong_106, wpX7_setOf, e_k0, e_k1, e_k125, e_k126, e_k127, e_k128, e_k129, e_k130, e_k141, e_k142, e_in0, e_in1, e_00, e_0m, e_m13, e_m14, e_m04, e_m5, e_ps, e_v20, pz_M0, pt_st, pt_zb, h]
set_option maxHeartbeats 2000000 in
set_option maxRecDepth 100000 in
theorem e_isEnded {M : pt_M} {Q : Int32 → pt_M → Prop} (h2 : M 2 2 = 1) (h40 : M 4 0 = -1) (h : Q 0 M) : wpX9_isEnded 0 M Q := by
  unfold wpX9_isEnded
  refine e_parts h2 h40 ⟨2, ?_⟩
  simp [lpX9_isEnded_20, lbX9_isEnded_20, wjX9_isEnded_157, wjX9_isEnded_158, wjX9_isEnded_138, wpX12_has, wjX12_has_14, wpJx4a65c_size_8abf5, h2, pt_zb, h]
set_option maxHeartbeats 2000000 in
set_option maxRecDepth 100000 in
theorem pu_16 (xs : Nat → Int32) : ∃ c0 v0 : Int32, (wpVX7_isEnded (fun X : String => (X = "java/lang/IndexOutOfBoundsException" ∧ c0 = 1)) (xs 1) pt_M0 (fun (r : Int32) (_ : pt_M) => c0 = 0 ∧ r = v0)) ∧ (wpX12_isEnded (xs 1) pz_M0 (fun (r : Int32) (M : pt_M) => M 0 0 = c0 ∧ (c0 = 0 → r = v0))) := by
  by_cases h : xs 1 = 0
  · refine ⟨0, 0, ?_, ?_⟩
    · simp [wpVX7_isEnded, wpX7_has, wjX7_has_13, wpX7_setOf, e_cs e_m13, e_k0, e_k1, e_k125, e_k126, e_k127, e_k128, e_k129, e_k130, e_k141, e_k142, e_in0, e_in1, e_00, e_0m, e_m13, e_m14, e_m04, e_m5, e_ps, e_v20, pz_M0, pt_st, pt_zb, h, e_ended]
    · simp [wpX12_isEnded, wpX12_isNoState, wpX12_start, wjX12_isEnded_28, wjX12_isEnded_29, wpJx4a65c_size_8abf5, wjX12_isNoState_25, wpX12_refuse, wjX12_refuse_16, wjX12_refuse_28, wpX12_has, wpX8_kind, wpX8_parent, wpJx4a65c_get_915e3, wpX10_isMark, wjX12_has_14, wpPJ15_checkIndex, wpJx4a65c_elementData_915e3, wjX10_isMark_13, wpPJ3_checkIndex, wjPJ3_checkIndex_9, e_k0, e_k1, e_k125, e_k126, e_k127, e_k128, e_k129, e_k130, e_k141, e_k142, e_in0, e_in1, e_00, e_0m, e_m13, e_m14, e_m04, e_m5, e_ps, e_v20, pz_M0, pt_st, pt_zb, h, e_isEnded]
  · refine ⟨1, 0, ?_, ?_⟩
    · simp [wpVX7_isEnded, wpX7_has, wjX7_has_13, wpX7_setOf, e_cs e_m13, e_k0, e_k1, e_k125, e_k126, e_k127, e_k128, e_k129, e_k130, e_k141, e_k142, e_in0, e_in1, e_00, e_0m, e_m13, e_m14, e_m04, e_m5, e_ps, e_v20, pz_M0, pt_st, pt_zb, h]
    · simp [wpX12_isEnded, wpX12_isNoState, wpX12_start, wjX12_isEnded_28, wjX12_isEnded_29, wpJx4a65c_size_8abf5, wjX12_isNoState_25, wpX12_refuse, wjX12_refuse_16, wjX12_refuse_28, wpX12_has, wpX8_kind, wpX8_parent, wpJx4a65c_get_915e3, wpX10_isMark, wjX12_has_14, wpPJ15_checkIndex, wpJx4a65c_elementData_915e3, wjX10_isMark_13, wpPJ3_checkIndex, wjPJ3_checkIndex_9, e_k0, e_k1, e_k125, e_k126, e_k127, e_k128, e_k129, e_k130, e_k141, e_k142, e_in0, e_in1, e_00, e_0m, e_m13, e_m14, e_m04, e_m5, e_ps, e_v20, pz_M0, pt_st, pt_zb, h]
