-- what each call answers on fresh objects: the plain ones
set_option maxHeartbeats 1000000 in
set_option maxRecDepth 100000 in
theorem pu_10 (xs : Nat → Int32) : ∃ v0 : Int32, (wpX7_states pt_M0 (fun (r : Int32) (_ : pt_M) => r = v0)) ∧ (wpX12_states pz_M0 (fun (r : Int32) (_ : pt_M) => r = v0)) := by
  refine ⟨1, ?_, ?_⟩
  · simp [wpX7_states, pt_M0, pz_M0, pt_st, pt_s, pt_zb]
  · simp [wpX12_states, wpJx4a65c_size_8abf5, wpX12_plain, pt_M0, pz_M0, pt_st, pt_s, pt_zb]
set_option maxHeartbeats 1000000 in
set_option maxRecDepth 100000 in
theorem pu_11 (xs : Nat → Int32) : ∃ v0 : Int32, (wpX7_transitions pt_M0 (fun (r : Int32) (_ : pt_M) => r = v0)) ∧ (wpX12_transitions pz_M0 (fun (r : Int32) (_ : pt_M) => r = v0)) := by
  refine ⟨0, ?_, ?_⟩
  · simp [wpX7_transitions, pt_M0, pz_M0, pt_st, pt_s, pt_zb]
  · simp [wpX12_transitions, wpJx4a65c_size_8abf5, wpX12_plain, pt_M0, pz_M0, pt_st, pt_s, pt_zb]
set_option maxHeartbeats 1000000 in
set_option maxRecDepth 100000 in
theorem pu_13 (xs : Nat → Int32) : ∃ v0 : Int32, (wpX7_isRunning pt_M0 (fun (r : Int32) (_ : pt_M) => r = v0)) ∧ (wpX12_isRunning pz_M0 (fun (r : Int32) (_ : pt_M) => r = v0)) := by
  refine ⟨0, ?_, ?_⟩
  · simp [wpX7_isRunning, pt_M0, pz_M0, pt_st, pt_s, pt_zb]
  · simp [wpX12_isRunning, pt_M0, pz_M0, pt_st, pt_s, pt_zb]
set_option maxHeartbeats 1000000 in
set_option maxRecDepth 100000 in
theorem pu_14 (xs : Nat → Int32) : ∃ v0 : Int32, (wpX7_active pt_M0 (fun (r : Int32) (_ : pt_M) => r = v0)) ∧ (wpX12_active pz_M0 (fun (r : Int32) (_ : pt_M) => r = v0)) := by
  refine ⟨0, ?_, ?_⟩
  · simp [wpX7_active, pt_M0, pz_M0, pt_st, pt_s, pt_zb]
  · simp [wpX12_active, wpX12_plain, pt_M0, pz_M0, pt_st, pt_s, pt_zb]
set_option maxHeartbeats 1000000 in
set_option maxRecDepth 100000 in
theorem pu_20 (xs : Nat → Int32) : ∃ v0 : Int32, (wpX7_clock pt_M0 (fun (r : Int32) (_ : pt_M) => r = v0)) ∧ (wpX12_clock pz_M0 (fun (r : Int32) (_ : pt_M) => r = v0)) := by
  refine ⟨0, ?_, ?_⟩
  · simp [wpX7_clock, pt_M0, pz_M0, pt_st, pt_s, pt_zb]
  · simp [wpX12_clock, wpX12_plain, pt_M0, pz_M0, pt_st, pt_s, pt_zb]
set_option maxHeartbeats 1000000 in
set_option maxRecDepth 100000 in
theorem pu_23 (xs : Nat → Int32) : ∃ v0 : Int32, (wpX7_lost pt_M0 (fun (r : Int32) (_ : pt_M) => r = v0)) ∧ (wpX12_lost pz_M0 (fun (r : Int32) (_ : pt_M) => r = v0)) := by
  refine ⟨0, ?_, ?_⟩
  · simp [wpX7_lost, pt_M0, pz_M0, pt_st, pt_s, pt_zb]
  · simp [wpX12_lost, wpX12_plain, pt_M0, pz_M0, pt_st, pt_s, pt_zb]
set_option maxHeartbeats 1000000 in
set_option maxRecDepth 100000 in
theorem pu_24 (xs : Nat → Int32) : ∃ v0 : Int32, (wpX7_restless pt_M0 (fun (r : Int32) (_ : pt_M) => r = v0)) ∧ (wpX12_restless pz_M0 (fun (r : Int32) (_ : pt_M) => r = v0)) := by
  refine ⟨0, ?_, ?_⟩
  · simp [wpX7_restless, pt_M0, pz_M0, pt_st, pt_s, pt_zb]
  · simp [wpX12_restless, wpX12_plain, pt_M0, pz_M0, pt_st, pt_s, pt_zb]
set_option maxHeartbeats 1000000 in
set_option maxRecDepth 100000 in
theorem pu_30 (xs : Nat → Int32) : ∃ v0 : Int32, (wpX7_rowAt (xs 1) pt_M0 (fun (r : Int32) (_ : pt_M) => r = v0)) ∧ (wpX12_rowAt (xs 1) pz_M0 (fun (r : Int32) (_ : pt_M) => r = v0)) := by
  refine ⟨0, ?_, ?_⟩
  · simp [wpX7_rowAt, wpX7_isWithin, wjX7_rowAt_30, wjX7_isWithin_14, wjX7_isWithin_15, pt_M0, pz_M0, pt_st, pt_s, pt_zb]
  · simp [wpX12_rowAt, wpX12_rowed, wpX12_plain, wjX12_rowed_22, wjX12_rowed_23, pt_M0, pz_M0, pt_st, pt_s, pt_zb]
set_option maxHeartbeats 1000000 in
set_option maxRecDepth 100000 in
theorem pu_31 (xs : Nat → Int32) : ∃ v0 : Int32, (wpX7_looked pt_M0 (fun (r : Int32) (_ : pt_M) => r = v0)) ∧ (wpX12_looked pz_M0 (fun (r : Int32) (_ : pt_M) => r = v0)) := by
  refine ⟨0, ?_, ?_⟩
  · simp [wpX7_looked, pt_M0, pz_M0, pt_st, pt_s, pt_zb]
  · simp [wpX12_looked, wpX12_plain, pt_M0, pz_M0, pt_st, pt_s, pt_zb]
set_option maxHeartbeats 1000000 in
set_option maxRecDepth 100000 in
theorem pu_7 (xs : Nat → Int32) : ∃ c0 v0 : Int32, (wpVX7_stop (fun X : String => (X = "java/lang/IllegalStateException" ∧ c0 = 1)) pt_M0 (fun (r : Int32) (_ : pt_M) => c0 = 0 ∧ r = v0)) ∧ (wpX12_stop pz_M0 (fun (r : Int32) (M : pt_M) => M 0 0 = c0 ∧ (c0 = 0 → r = v0))) := by
  refine ⟨1, 0, ?_, ?_⟩
  · simp [wpVX7_stop, wpVX7_checkRunning, pt_M0, pz_M0, pt_st, pt_s, pt_zb]
  · simp [wpX12_stop, wjX12_stop_16, wpX12_start, wpPJ6_bitCount, wpX12_refuse, wjX12_refuse_16, wjX12_refuse_28, pt_M0, pz_M0, pt_st, pt_s, pt_zb]
set_option maxHeartbeats 1000000 in
set_option maxRecDepth 100000 in
theorem pu_8 (xs : Nat → Int32) : ∃ c0 v0 : Int32, (wpVX7_send (fun X : String => (X = "java/lang/IllegalStateException" ∧ c0 = 1) ∨ (X = "java/lang/IllegalArgumentException" ∧ c0 = 2)) (xs 1) pt_M0 (fun (r : Int32) (_ : pt_M) => c0 = 0 ∧ r = v0)) ∧ (wpX12_send (xs 1) pz_M0 (fun (r : Int32) (M : pt_M) => M 0 0 = c0 ∧ (c0 = 0 → r = v0))) := by
  refine ⟨1, 0, ?_, ?_⟩
  · simp [wpVX7_send, wpVX7_checkRunning, pt_M0, pz_M0, pt_st, pt_s, pt_zb]
  · simp [wpX12_send, wjX12_send_16, wpX12_start, wjX12_send_46, wpX12_isIn, wjX12_send_39, wpX12_refuse, wjX12_isIn_14, wjX12_isIn_15, wjX12_refuse_16, wjX12_refuse_28, pt_M0, pz_M0, pt_st, pt_s, pt_zb]
set_option maxHeartbeats 1000000 in
set_option maxRecDepth 100000 in
theorem pu_9 (xs : Nat → Int32) : ∃ c0 v0 : Int32, (wpVX7_tick (fun X : String => (X = "java/lang/IllegalStateException" ∧ c0 = 1) ∨ (X = "java/lang/IllegalArgumentException" ∧ c0 = 2)) (xs 1) pt_M0 (fun (r : Int32) (_ : pt_M) => c0 = 0 ∧ r = v0)) ∧ (wpX12_tick (xs 1) pz_M0 (fun (r : Int32) (M : pt_M) => M 0 0 = c0 ∧ (c0 = 0 → r = v0))) := by
  refine ⟨1, 0, ?_, ?_⟩
  · simp [wpVX7_tick, wpVX7_checkRunning, pt_M0, pz_M0, pt_st, pt_s, pt_zb]
  · simp [wpX12_tick, wjX12_tick_16, wpX12_start, wjX12_tick_46, wpX12_isIn, wjX12_tick_39, wpX12_refuse, wjX12_isIn_14, wjX12_isIn_15, wjX12_refuse_16, wjX12_refuse_28, pt_M0, pz_M0, pt_st, pt_s, pt_zb]
set_option maxHeartbeats 1000000 in
set_option maxRecDepth 100000 in
theorem pu_25 (xs : Nat → Int32) : ∃ c0 v0 : Int32, (wpVX7_wouldFire (fun X : String => (X = "java/lang/IllegalStateException" ∧ c0 = 1) ∨ (X = "java/lang/IllegalArgumentException" ∧ c0 = 2)) (xs 1) pt_M0 (fun (r : Int32) (_ : pt_M) => c0 = 0 ∧ r = v0)) ∧ (wpX12_wouldFire (xs 1) pz_M0 (fun (r : Int32) (M : pt_M) => M 0 0 = c0 ∧ (c0 = 0 → r = v0))) := by
  refine ⟨1, 0, ?_, ?_⟩
  · simp [wpVX7_wouldFire, wpVX7_checkRunning, pt_M0, pz_M0, pt_st, pt_s, pt_zb]
  · simp [wpX12_wouldFire, wpX12_isNoEvent, wjX12_isNoEvent_16, wpX12_start, wjX12_isNoEvent_46, wpX12_isIn, wjX12_isNoEvent_39, wpX12_refuse, wjX12_isNoEvent_51, wjX12_isIn_14, wjX12_isIn_15, wjX12_refuse_16, wjX12_refuse_28, pt_M0, pz_M0, pt_st, pt_s, pt_zb]
set_option maxHeartbeats 1000000 in
set_option maxRecDepth 100000 in
theorem pu_26 (xs : Nat → Int32) : ∃ c0 v0 : Int32, (wpVX7_wouldBe (fun X : String => (X = "java/lang/IllegalStateException" ∧ c0 = 1) ∨ (X = "java/lang/IllegalArgumentException" ∧ c0 = 2)) (xs 1) pt_M0 (fun (r : Int32) (_ : pt_M) => c0 = 0 ∧ r = v0)) ∧ (wpX12_wouldBe (xs 1) pz_M0 (fun (r : Int32) (M : pt_M) => M 0 0 = c0 ∧ (c0 = 0 → r = v0))) := by
  refine ⟨1, 0, ?_, ?_⟩
  · simp [wpVX7_wouldBe, wpVX7_checkRunning, pt_M0, pz_M0, pt_st, pt_s, pt_zb]
  · simp [wpX12_wouldBe, wpX12_isNoEvent, wjX12_isNoEvent_16, wpX12_start, wjX12_isNoEvent_46, wpX12_isIn, wjX12_isNoEvent_39, wpX12_refuse, wjX12_isNoEvent_51, wjX12_isIn_14, wjX12_isIn_15, wjX12_refuse_16, wjX12_refuse_28, pt_M0, pz_M0, pt_st, pt_s, pt_zb]
set_option maxHeartbeats 1000000 in
set_option maxRecDepth 100000 in
theorem pu_27 (xs : Nat → Int32) : ∃ c0 v0 : Int32, (wpVX7_open (fun X : String => (X = "java/lang/IllegalStateException" ∧ c0 = 1)) pt_M0 (fun (r : Int32) (_ : pt_M) => c0 = 0 ∧ r = v0)) ∧ (wpX12_open pz_M0 (fun (r : Int32) (M : pt_M) => M 0 0 = c0 ∧ (c0 = 0 → r = v0))) := by
  refine ⟨1, 0, ?_, ?_⟩
  · simp [wpVX7_open, wpVX7_checkRunning, pt_M0, pz_M0, pt_st, pt_s, pt_zb]
  · simp [wpX12_open, wjX12_open_16, wpX12_start, lpX12_open_29, wpX12_refuse, lbX12_open_29, wjX12_refuse_16, wpJx4a65c_size_8abf5, wjX12_refuse_28, pt_M0, pz_M0, pt_st, pt_s, pt_zb]
set_option maxHeartbeats 1000000 in
set_option maxRecDepth 100000 in
theorem pu_28 (xs : Nat → Int32) : ∃ c0 v0 : Int32, (wpVX7_rowTo (fun X : String => (X = "java/lang/IllegalStateException" ∧ c0 = 1) ∨ (X = "java/lang/IndexOutOfBoundsException" ∧ c0 = 2) ∨ (X = "java/lang/IllegalArgumentException" ∧ c0 = 3)) (xs 1) (xs 2) pt_M0 (fun (r : Int32) (_ : pt_M) => c0 = 0 ∧ r = v0)) ∧ (wpX12_rowTo (xs 1) (xs 2) pz_M0 (fun (r : Int32) (M : pt_M) => M 0 0 = c0 ∧ (c0 = 0 → r = v0))) := by
  refine ⟨1, 0, ?_, ?_⟩
  · simp [wpVX7_rowTo, wpVX7_checkRunning, pt_M0, pz_M0, pt_st, pt_s, pt_zb]
  · simp [wpX12_rowTo, wjX12_rowTo_16, wpX12_start, wjX12_rowTo_59, wpX12_isNoState, wpX12_refuse, wpX12_isIn, wjX12_rowTo_52, wpJx4a65c_size_8abf5, wjX12_isNoState_25, wjX12_refuse_16, wjX12_isIn_14, wjX12_isIn_15, wjX12_refuse_28, pt_M0, pz_M0, pt_st, pt_s, pt_zb]
set_option maxHeartbeats 1000000 in
set_option maxRecDepth 100000 in
theorem pu_29 (xs : Nat → Int32) : ∃ c0 v0 : Int32, (wpVX7_rowFor (fun X : String => (X = "java/lang/IllegalStateException" ∧ c0 = 1) ∨ (X = "java/lang/IndexOutOfBoundsException" ∧ c0 = 2) ∨ (X = "java/lang/IllegalArgumentException" ∧ c0 = 3)) (xs 1) (xs 2) pt_M0 (fun (r : Int32) (_ : pt_M) => c0 = 0 ∧ r = v0)) ∧ (wpX12_rowFor (xs 1) (xs 2) pz_M0 (fun (r : Int32) (M : pt_M) => M 0 0 = c0 ∧ (c0 = 0 → r = v0))) := by
  refine ⟨1, 0, ?_, ?_⟩
  · simp [wpVX7_rowFor, wpVX7_checkRunning, pt_M0, pz_M0, pt_st, pt_s, pt_zb]
  · simp [wpX12_rowFor, wjX12_rowFor_16, wpX12_start, wjX12_rowFor_59, wpX12_isNoTransition, wpX12_refuse, wpX12_isIn, wjX12_rowFor_52, wpJx4a65c_size_8abf5, wjX12_isNoTransition_25, wjX12_refuse_16, wjX12_isIn_14, wjX12_isIn_15, wjX12_refuse_28, pt_M0, pz_M0, pt_st, pt_s, pt_zb]
