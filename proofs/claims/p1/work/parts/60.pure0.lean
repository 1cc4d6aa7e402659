-- what each call answers on fresh objects
theorem e_in0 {p1 a b : Int32} {M : pt_M} {Q : Int32 → pt_M → Prop} : wpX7_isWithin p1 a b M Q ↔ Q (if a ≤ p1 ∧ p1 ≤ b then 1 else 0) M := by
  unfold wpX7_isWithin wjX7_isWithin_14 wjX7_isWithin_15
  by_cases h1 : p1 < a
  · have h2 : ¬ (a ≤ p1 ∧ p1 ≤ b) := fun h => absurd h1 (Int32.not_lt.mpr h.1)
    simp [h1, h2, pt_zb]
  · by_cases h3 : b < p1
    · have h2 : ¬ (a ≤ p1 ∧ p1 ≤ b) := fun h => absurd h3 (Int32.not_lt.mpr h.2)
      simp [h1, h3, h2, pt_zb]
    · have h2 : a ≤ p1 ∧ p1 ≤ b := ⟨Int32.not_lt.mp h1, Int32.not_lt.mp h3⟩
      simp [h1, h3, h2, pt_zb]
theorem e_in1 {p1 a b : Int32} {M : pt_M} {Q : Int32 → pt_M → Prop} : wpX12_isIn p1 a b M Q ↔ Q (if a ≤ p1 ∧ p1 ≤ b then 1 else 0) M := by
  unfold wpX12_isIn wjX12_isIn_14 wjX12_isIn_15
  by_cases h1 : p1 < a
  · have h2 : ¬ (a ≤ p1 ∧ p1 ≤ b) := fun h => absurd h1 (Int32.not_lt.mpr h.1)
    simp [h1, h2, pt_zb]
  · by_cases h3 : b < p1
    · have h2 : ¬ (a ≤ p1 ∧ p1 ≤ b) := fun h => absurd h3 (Int32.not_lt.mpr h.2)
      simp [h1, h3, h2, pt_zb]
    · have h2 : a ≤ p1 ∧ p1 ≤ b := ⟨Int32.not_lt.mp h1, Int32.not_lt.mp h3⟩
      simp [h1, h3, h2, pt_zb]
theorem e_00 {p : Int32} : (0 ≤ p ∧ p ≤ 0) ↔ p = 0 := ⟨fun h => Int32.le_antisymm h.2 h.1, fun h => by subst h; decide⟩
theorem e_0m {p : Int32} : ¬ (0 ≤ p ∧ p ≤ (-1)) := fun h => absurd (Int32.le_trans h.1 h.2) (by decide)
theorem e_m13 : pt_M0 1 3 = 1 := by decide +kernel
theorem e_m14 : pt_M0 1 4 = 0 := by decide +kernel
theorem e_m04 : pt_M0 0 4 = 0 := by decide +kernel
theorem e_m5 : pt_M0 5 = fun j => if j = 3 then -1 else if j = 4 then -1 else 0 := pt_M0S (s := 0) (j := 0) (by decide)
theorem e_k1 : pt_M0 1 = fun j => if j = 3 then 1 else if j = 5 then 1 else 0 := by
  unfold pt_M0
  rw [if_pos rfl]
theorem e_k0 : pt_M0 0 = fun _ => 0 := pt_M0z (by decide) (by decide +kernel) (by decide +kernel) (by decide +kernel)
theorem e_k125 : pt_M0 125 = fun _ => 0 := pt_M0z (by decide) (by decide +kernel) (by decide +kernel) (by decide +kernel)
theorem e_k126 : pt_M0 126 = fun _ => 0 := pt_M0z (by decide) (by decide +kernel) (by decide +kernel) (by decide +kernel)
theorem e_k127 : pt_M0 127 = fun _ => -1 := pt_M0a (by decide) (by decide +kernel) (by decide +kernel) (by decide +kernel)
theorem e_k128 : pt_M0 128 = fun _ => 0 := pt_M0z (by decide) (by decide +kernel) (by decide +kernel) (by decide +kernel)
theorem e_k129 : pt_M0 129 = fun _ => 0 := pt_M0z (by decide) (by decide +kernel) (by decide +kernel) (by decide +kernel)
theorem e_k130 : pt_M0 130 = fun _ => 0 := pt_M0z (by decide) (by decide +kernel) (by decide +kernel) (by decide +kernel)
theorem e_k141 : pt_M0 141 = fun _ => 0 := pt_M0z (by decide) (by decide +kernel) (by decide +kernel) (by decide +kernel)
theorem e_k142 : pt_M0 142 = fun _ => 0 := pt_M0z (by decide) (by decide +kernel) (by decide +kernel) (by decide +kernel)
theorem e_cs {p : Int32} {M : pt_M} {E : String → Prop} {Q : pt_M → Prop} (h : M 1 3 = 1) : wpVX7_checkState E p M Q ↔ (p = 0 → Q M) ∧ (¬ p = 0 → E "java/lang/IndexOutOfBoundsException") := by
  unfold wpVX7_checkState
  rw [e_in0, h, show (1 : Int32) - 1 = 0 from rfl]
  by_cases hp : p = 0
  · subst hp
    simp
  · have hn : ¬ (0 ≤ p ∧ p ≤ 0) := fun q => hp (e_00.mp q)
    simp only [if_neg hn]
    simp [hp]
theorem e_ct {p : Int32} {M : pt_M} {E : String → Prop} {Q : pt_M → Prop} (h : M 1 4 = 0) : wpVX7_checkTransition E p M Q ↔ E "java/lang/IndexOutOfBoundsException" := by
  unfold wpVX7_checkTransition
  rw [e_in0, h, show (0 : Int32) - 1 = (-1) from rfl]
  simp [e_0m]
theorem e_cr {M : pt_M} {E : String → Prop} {Q : pt_M → Prop} (h : M 0 4 = 0) : wpVX7_checkResting E M Q ↔ Q M := by
  unfold wpVX7_checkResting
  simp [h]
theorem e_cu {M : pt_M} {E : String → Prop} {Q : pt_M → Prop} (h : M 0 4 = 0) : wpVX7_checkRunning E M Q ↔ E "java/lang/IllegalStateException" := by
  unfold wpVX7_checkRunning
  simp [h]
theorem e_ps : pt_s 0 = 5 := by decide +kernel
theorem e_v20 : vp_in 0 20 := by unfold vp_in; decide
theorem e_v4 {p : Int32} (h : 0 ≤ p ∧ p ≤ 3) : vp_in p 4 := by
  unfold vp_in
  rintro (q | q)
  · exact absurd q (Int32.not_lt.mpr h.1)
  · have h1 : p.toInt ≤ 3 := Int32.le_iff_toInt_le.mp h.2
    have h0 : 0 ≤ p.toInt := Int32.le_iff_toInt_le.mp h.1
    have h2 : p.toNatClampNeg = p.toInt.toNat := rfl
    omega
set_option maxHeartbeats 2000000 in
set_option maxRecDepth 100000 in
theorem pu_10 (xs : Nat → Int32) : ∃ v0 : Int32, (wpX7_states pt_M0 (fun (r : Int32) (_ : pt_M) => r = v0)) ∧ (wpX12_states pz_M0 (fun (r : Int32) (_ : pt_M) => r = v0)) := by
  refine ⟨1, ?_, ?_⟩
  · simp [wpX7_states, e_k0, e_k1, e_k125, e_k126, e_k127, e_k128, e_k129, e_k130, e_k141, e_k142, e_in0, e_in1, e_00, e_0m, e_m13, e_m14, e_m04, e_m5, e_ps, e_v20, pz_M0, pt_st, pt_zb]
  · simp [wpX12_states, wpJx4a65c_size_8abf5, wpX12_plain, e_k0, e_k1, e_k125, e_k126, e_k127, e_k128, e_k129, e_k130, e_k141, e_k142, e_in0, e_in1, e_00, e_0m, e_m13, e_m14, e_m04, e_m5, e_ps, e_v20, pz_M0, pt_st, pt_zb]
set_option maxHeartbeats 2000000 in
set_option maxRecDepth 100000 in
theorem pu_11 (xs : Nat → Int32) : ∃ v0 : Int32, (wpX7_transitions pt_M0 (fun (r : Int32) (_ : pt_M) => r = v0)) ∧ (wpX12_transitions pz_M0 (fun (r : Int32) (_ : pt_M) => r = v0)) := by
  refine ⟨0, ?_, ?_⟩
  · simp [wpX7_transitions, e_k0, e_k1, e_k125, e_k126, e_k127, e_k128, e_k129, e_k130, e_k141, e_k142, e_in0, e_in1, e_00, e_0m, e_m13, e_m14, e_m04, e_m5, e_ps, e_v20, pz_M0, pt_st, pt_zb]
  · simp [wpX12_transitions, wpJx4a65c_size_8abf5, wpX12_plain, e_k0, e_k1, e_k125, e_k126, e_k127, e_k128, e_k129, e_k130, e_k141, e_k142, e_in0, e_in1, e_00, e_0m, e_m13, e_m14, e_m04, e_m5, e_ps, e_v20, pz_M0, pt_st, pt_zb]
set_option maxHeartbeats 2000000 in
set_option maxRecDepth 100000 in
theorem pu_13 (xs : Nat → Int32) : ∃ v0 : Int32, (wpX7_isRunning pt_M0 (fun (r : Int32) (_ : pt_M) => r = v0)) ∧ (wpX12_isRunning pz_M0 (fun (r : Int32) (_ : pt_M) => r = v0)) := by
  refine ⟨0, ?_, ?_⟩
  · simp [wpX7_isRunning, e_k0, e_k1, e_k125, e_k126, e_k127, e_k128, e_k129, e_k130, e_k141, e_k142, e_in0, e_in1, e_00, e_0m, e_m13, e_m14, e_m04, e_m5, e_ps, e_v20, pz_M0, pt_st, pt_zb]
  · simp [wpX12_isRunning, e_k0, e_k1, e_k125, e_k126, e_k127, e_k128, e_k129, e_k130, e_k141, e_k142, e_in0, e_in1, e_00, e_0m, e_m13, e_m14, e_m04, e_m5, e_ps, e_v20, pz_M0, pt_st, pt_zb]
set_option maxHeartbeats 2000000 in
set_option maxRecDepth 100000 in
theorem pu_14 (xs : Nat → Int32) : ∃ v0 : Int32, (wpX7_active pt_M0 (fun (r : Int32) (_ : pt_M) => r = v0)) ∧ (wpX12_active pz_M0 (fun (r : Int32) (_ : pt_M) => r = v0)) := by
  refine ⟨0, ?_, ?_⟩
  · simp [wpX7_active, e_k0, e_k1, e_k125, e_k126, e_k127, e_k128, e_k129, e_k130, e_k141, e_k142, e_in0, e_in1, e_00, e_0m, e_m13, e_m14, e_m04, e_m5, e_ps, e_v20, pz_M0, pt_st, pt_zb]
  · simp [wpX12_active, wpX12_plain, e_k0, e_k1, e_k125, e_k126, e_k127, e_k128, e_k129, e_k130, e_k141, e_k142, e_in0, e_in1, e_00, e_0m, e_m13, e_m14, e_m04, e_m5, e_ps, e_v20, pz_M0, pt_st, pt_zb]
set_option maxHeartbeats 2000000 in
set_option maxRecDepth 100000 in
theorem pu_20 (xs : Nat → Int32) : ∃ v0 : Int32, (wpX7_clock pt_M0 (fun (r : Int32) (_ : pt_M) => r = v0)) ∧ (wpX12_clock pz_M0 (fun (r : Int32) (_ : pt_M) => r = v0)) := by
  refine ⟨0, ?_, ?_⟩
  · simp [wpX7_clock, e_k0, e_k1, e_k125, e_k126, e_k127, e_k128, e_k129, e_k130, e_k141, e_k142, e_in0, e_in1, e_00, e_0m, e_m13, e_m14, e_m04, e_m5, e_ps, e_v20, pz_M0, pt_st, pt_zb]
  · simp [wpX12_clock, wpX12_plain, e_k0, e_k1, e_k125, e_k126, e_k127, e_k128, e_k129, e_k130, e_k141, e_k142, e_in0, e_in1, e_00, e_0m, e_m13, e_m14, e_m04, e_m5, e_ps, e_v20, pz_M0, pt_st, pt_zb]
set_option maxHeartbeats 2000000 in
set_option maxRecDepth 100000 in
theorem pu_23 (xs : Nat → Int32) : ∃ v0 : Int32, (wpX7_lost pt_M0 (fun (r : Int32) (_ : pt_M) => r = v0)) ∧ (wpX12_lost pz_M0 (fun (r : Int32) (_ : pt_M) => r = v0)) := by
  refine ⟨0, ?_, ?_⟩
  · simp [wpX7_lost, e_k0, e_k1, e_k125, e_k126, e_k127, e_k128, e_k129, e_k130, e_k141, e_k142, e_in0, e_in1, e_00, e_0m, e_m13, e_m14, e_m04, e_m5, e_ps, e_v20, pz_M0, pt_st, pt_zb]
  · simp [wpX12_lost, wpX12_plain, e_k0, e_k1, e_k125, e_k126, e_k127, e_k128, e_k129, e_k130, e_k141, e_k142, e_in0, e_in1, e_00, e_0m, e_m13, e_m14, e_m04, e_m5, e_ps, e_v20, pz_M0, pt_st, pt_zb]
set_option maxHeartbeats 2000000 in
set_option maxRecDepth 100000 in
theorem pu_24 (xs : Nat → Int32) : ∃ v0 : Int32, (wpX7_restless pt_M0 (fun (r : Int32) (_ : pt_M) => r = v0)) ∧ (wpX12_restless pz_M0 (fun (r : Int32) (_ : pt_M) => r = v0)) := by
  refine ⟨0, ?_, ?_⟩
  · simp [wpX7_restless, e_k0, e_k1, e_k125, e_k126, e_k127, e_k128, e_k129, e_k130, e_k141, e_k142, e_in0, e_in1, e_00, e_0m, e_m13, e_m14, e_m04, e_m5, e_ps, e_v20, pz_M0, pt_st, pt_zb]
  · simp [wpX12_restless, wpX12_plain, e_k0, e_k1, e_k125, e_k126, e_k127, e_k128, e_k129, e_k130, e_k141, e_k142, e_in0, e_in1, e_00, e_0m, e_m13, e_m14, e_m04, e_m5, e_ps, e_v20, pz_M0, pt_st, pt_zb]
set_option maxHeartbeats 2000000 in
set_option maxRecDepth 100000 in
theorem pu_30 (xs : Nat → Int32) : ∃ v0 : Int32, (wpX7_rowAt (xs 1) pt_M0 (fun (r : Int32) (_ : pt_M) => r = v0)) ∧ (wpX12_rowAt (xs 1) pz_M0 (fun (r : Int32) (_ : pt_M) => r = v0)) := by
  refine ⟨(-1), ?_, ?_⟩
  · unfold wpX7_rowAt
    rw [e_in0, e_k141]
    rw [if_neg (show ¬ (0 ≤ xs 1 ∧ xs 1 ≤ (0 : Int32) - 1) from e_0m)]
    exact ⟨fun _ => rfl, fun hc => absurd rfl hc⟩
  · unfold wpX12_rowAt wpX12_rowed
    refine ⟨fun _ => ?_, fun hn => ⟨fun _ => ?_, fun hc => absurd (Int32.not_lt.mp hn) hc⟩⟩ <;> simp [wjX12_rowed_22, wjX12_rowed_23, wpX12_plain]
set_option maxHeartbeats 2000000 in
set_option maxRecDepth 100000 in
theorem pu_31 (xs : Nat → Int32) : ∃ v0 : Int32, (wpX7_looked pt_M0 (fun (r : Int32) (_ : pt_M) => r = v0)) ∧ (wpX12_looked pz_M0 (fun (r : Int32) (_ : pt_M) => r = v0)) := by
  refine ⟨0, ?_, ?_⟩
  · simp [wpX7_looked, e_k0, e_k1, e_k125, e_k126, e_k127, e_k128, e_k129, e_k130, e_k141, e_k142, e_in0, e_in1, e_00, e_0m, e_m13, e_m14, e_m04, e_m5, e_ps, e_v20, pz_M0, pt_st, pt_zb]
  · simp [wpX12_looked, wpX12_plain, e_k0, e_k1, e_k125, e_k126, e_k127, e_k128, e_k129, e_k130, e_k141, e_k142, e_in0, e_in1, e_00, e_0m, e_m13, e_m14, e_m04, e_m5, e_ps, e_v20, pz_M0, pt_st, pt_zb]
set_option maxHeartbeats 2000000 in
set_option maxRecDepth 100000 in
theorem pu_7 (xs : Nat → Int32) : ∃ c0 v0 : Int32, (wpVX7_stop (fun X : String => (X = "java/lang/IllegalStateException" ∧ c0 = 1)) pt_M0 (fun (r : Int32) (_ : pt_M) => c0 = 0 ∧ r = v0)) ∧ (wpX12_stop pz_M0 (fun (r : Int32) (M : pt_M) => M 0 0 = c0 ∧ (c0 = 0 → r = v0))) := by
  refine ⟨1, 0, ?_, ?_⟩
  · unfold wpVX7_stop
    rw [e_cu e_m04]
    simp
  · simp [wpX12_stop, wjX12_stop_16, wpX12_start, wpPJ6_bitCount, wpX12_refuse, wjX12_refuse_16, wjX12_refuse_28, e_k0, e_k1, e_k125, e_k126, e_k127, e_k128, e_k129, e_k130, e_k141, e_k142, e_in0, e_in1, e_00, e_0m, e_m13, e_m14, e_m04, e_m5, e_ps, e_v20, pz_M0, pt_st, pt_zb]
set_option maxHeartbeats 2000000 in
set_option maxRecDepth 100000 in
theorem pu_8 (xs : Nat → Int32) : ∃ c0 v0 : Int32, (wpVX7_send (fun X : String => (X = "java/lang/IllegalStateException" ∧ c0 = 1) ∨ (X = "java/lang/IllegalArgumentException" ∧ c0 = 2)) (xs 1) pt_M0 (fun (r : Int32) (_ : pt_M) => c0 = 0 ∧ r = v0)) ∧ (wpX12_send (xs 1) pz_M0 (fun (r : Int32) (M : pt_M) => M 0 0 = c0 ∧ (c0 = 0 → r = v0))) := by
  refine ⟨1, 0, ?_, ?_⟩
  · unfold wpVX7_send
    rw [e_cu e_m04]
    simp
  · simp [wpX12_send, wjX12_send_16, wpX12_start, wjX12_send_46, wjX12_send_39, wpX12_refuse, wjX12_refuse_16, wjX12_refuse_28, e_k0, e_k1, e_k125, e_k126, e_k127, e_k128, e_k129, e_k130, e_k141, e_k142, e_in0, e_in1, e_00, e_0m, e_m13, e_m14, e_m04, e_m5, e_ps, e_v20, pz_M0, pt_st, pt_zb]
set_option maxHeartbeats 2000000 in
set_option maxRecDepth 100000 in
theorem pu_9 (xs : Nat → Int32) : ∃ c0 v0 : Int32, (wpVX7_tick (fun X : String => (X = "java/lang/IllegalStateException" ∧ c0 = 1) ∨ (X = "java/lang/IllegalArgumentException" ∧ c0 = 2)) (xs 1) pt_M0 (fun (r : Int32) (_ : pt_M) => c0 = 0 ∧ r = v0)) ∧ (wpX12_tick (xs 1) pz_M0 (fun (r : Int32) (M : pt_M) => M 0 0 = c0 ∧ (c0 = 0 → r = v0))) := by
  refine ⟨1, 0, ?_, ?_⟩
  · unfold wpVX7_tick
    rw [e_cu e_m04]
    simp
  · simp [wpX12_tick, wjX12_tick_16, wpX12_start, wjX12_tick_46, wjX12_tick_39, wpX12_refuse, wjX12_refuse_16, wjX12_refuse_28, e_k0, e_k1, e_k125, e_k126, e_k127, e_k128, e_k129, e_k130, e_k141, e_k142, e_in0, e_in1, e_00, e_0m, e_m13, e_m14, e_m04, e_m5, e_ps, e_v20, pz_M0, pt_st, pt_zb]
set_option maxHeartbeats 2000000 in
set_option maxRecDepth 100000 in
theorem pu_25 (xs : Nat → Int32) : ∃ c0 v0 : Int32, (wpVX7_wouldFire (fun X : String => (X = "java/lang/IllegalStateException" ∧ c0 = 1) ∨ (X = "java/lang/IllegalArgumentException" ∧ c0 = 2)) (xs 1) pt_M0 (fun (r : Int32) (_ : pt_M) => c0 = 0 ∧ r = v0)) ∧ (wpX12_wouldFire (xs 1) pz_M0 (fun (r : Int32) (M : pt_M) => M 0 0 = c0 ∧ (c0 = 0 → r = v0))) := by
  refine ⟨1, 0, ?_, ?_⟩
  · unfold wpVX7_wouldFire
    rw [e_cu e_m04]
    simp
  · simp [wpX12_wouldFire, wpX12_isNoEvent, wjX12_isNoEvent_16, wpX12_start, wjX12_isNoEvent_46, wjX12_isNoEvent_39, wpX12_refuse, wjX12_isNoEvent_51, wjX12_refuse_16, wjX12_refuse_28, e_k0, e_k1, e_k125, e_k126, e_k127, e_k128, e_k129, e_k130, e_k141, e_k142, e_in0, e_in1, e_00, e_0m, e_m13, e_m14, e_m04, e_m5, e_ps, e_v20, pz_M0, pt_st, pt_zb]
set_option maxHeartbeats 2000000 in
set_option maxRecDepth 100000 in
theorem pu_26 (xs : Nat → Int32) : ∃ c0 v0 : Int32, (wpVX7_wouldBe (fun X : String => (X = "java/lang/IllegalStateException" ∧ c0 = 1) ∨ (X = "java/lang/IllegalArgumentException" ∧ c0 = 2)) (xs 1) pt_M0 (fun (r : Int32) (_ : pt_M) => c0 = 0 ∧ r = v0)) ∧ (wpX12_wouldBe (xs 1) pz_M0 (fun (r : Int32) (M : pt_M) => M 0 0 = c0 ∧ (c0 = 0 → r = v0))) := by
  refine ⟨1, 0, ?_, ?_⟩
  · unfold wpVX7_wouldBe
    rw [e_cu e_m04]
    simp
  · simp [wpX12_wouldBe, wpX12_isNoEvent, wjX12_isNoEvent_16, wpX12_start, wjX12_isNoEvent_46, wjX12_isNoEvent_39, wpX12_refuse, wjX12_isNoEvent_51, wjX12_refuse_16, wjX12_refuse_28, e_k0, e_k1, e_k125, e_k126, e_k127, e_k128, e_k129, e_k130, e_k141, e_k142, e_in0, e_in1, e_00, e_0m, e_m13, e_m14, e_m04, e_m5, e_ps, e_v20, pz_M0, pt_st, pt_zb]
set_option maxHeartbeats 2000000 in
set_option maxRecDepth 100000 in
theorem pu_27 (xs : Nat → Int32) : ∃ c0 v0 : Int32, (wpVX7_open (fun X : String => (X = "java/lang/IllegalStateException" ∧ c0 = 1)) pt_M0 (fun (r : Int32) (_ : pt_M) => c0 = 0 ∧ r = v0)) ∧ (wpX12_open pz_M0 (fun (r : Int32) (M : pt_M) => M 0 0 = c0 ∧ (c0 = 0 → r = v0))) := by
  refine ⟨1, 0, ?_, ?_⟩
  · unfold wpVX7_open
    rw [e_cu e_m04]
    simp
  · simp [wpX12_open, wjX12_open_16, wpX12_start, lpX12_open_29, wpX12_refuse, lbX12_open_29, wjX12_refuse_16, wpJx4a65c_size_8abf5, wjX12_refuse_28, e_k0, e_k1, e_k125, e_k126, e_k127, e_k128, e_k129, e_k130, e_k141, e_k142, e_in0, e_in1, e_00, e_0m, e_m13, e_m14, e_m04, e_m5, e_ps, e_v20, pz_M0, pt_st, pt_zb]
set_option maxHeartbeats 2000000 in
set_option maxRecDepth 100000 in
theorem pu_28 (xs : Nat → Int32) : ∃ c0 v0 : Int32, (wpVX7_rowTo (fun X : String => (X = "java/lang/IllegalStateException" ∧ c0 = 1) ∨ (X = "java/lang/IndexOutOfBoundsException" ∧ c0 = 2) ∨ (X = "java/lang/IllegalArgumentException" ∧ c0 = 3)) (xs 1) (xs 2) pt_M0 (fun (r : Int32) (_ : pt_M) => c0 = 0 ∧ r = v0)) ∧ (wpX12_rowTo (xs 1) (xs 2) pz_M0 (fun (r : Int32) (M : pt_M) => M 0 0 = c0 ∧ (c0 = 0 → r = v0))) := by
  refine ⟨1, 0, ?_, ?_⟩
  · unfold wpVX7_rowTo
    rw [e_cu e_m04]
    simp
  · simp [wpX12_rowTo, wjX12_rowTo_16, wpX12_start, wjX12_rowTo_59, wpX12_isNoState, wpX12_refuse, wjX12_rowTo_52, wpJx4a65c_size_8abf5, wjX12_isNoState_25, wjX12_refuse_16, wjX12_refuse_28, e_k0, e_k1, e_k125, e_k126, e_k127, e_k128, e_k129, e_k130, e_k141, e_k142, e_in0, e_in1, e_00, e_0m, e_m13, e_m14, e_m04, e_m5, e_ps, e_v20, pz_M0, pt_st, pt_zb]
set_option maxHeartbeats 2000000 in
set_option maxRecDepth 100000 in
theorem pu_29 (xs : Nat → Int32) : ∃ c0 v0 : Int32, (wpVX7_rowFor (fun X : String => (X = "java/lang/IllegalStateException" ∧ c0 = 1) ∨ (X = "java/lang/IndexOutOfBoundsException" ∧ c0 = 2) ∨ (X = "java/lang/IllegalArgumentException" ∧ c0 = 3)) (xs 1) (xs 2) pt_M0 (fun (r : Int32) (_ : pt_M) => c0 = 0 ∧ r = v0)) ∧ (wpX12_rowFor (xs 1) (xs 2) pz_M0 (fun (r : Int32) (M : pt_M) => M 0 0 = c0 ∧ (c0 = 0 → r = v0))) := by
  refine ⟨1, 0, ?_, ?_⟩
  · unfold wpVX7_rowFor
    rw [e_cu e_m04]
    simp
  · simp [wpX12_rowFor, wjX12_rowFor_16, wpX12_start, wjX12_rowFor_59, wpX12_isNoTransition, wpX12_refuse, wjX12_rowFor_52, wpJx4a65c_size_8abf5, wjX12_isNoTransition_25, wjX12_refuse_16, wjX12_refuse_28, e_k0, e_k1, e_k125, e_k126, e_k127, e_k128, e_k129, e_k130, e_k141, e_k142, e_in0, e_in1, e_00, e_0m, e_m13, e_m14, e_m04, e_m5, e_ps, e_v20, pz_M0, pt_st, pt_zb]
