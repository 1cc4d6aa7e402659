-- a closed run, walked to its end
set_option maxHeartbeats 8000000 in
set_option maxRecDepth 100000 in
theorem pu_6 (xs : Nat → Int32) : ∃ c0 v0 : Int32, (wpVX7_start (fun X : String => (X = "java/lang/IllegalStateException" ∧ c0 = 1)) pt_M0 (fun (r : Int32) (_ : pt_M) => c0 = 0 ∧ r = v0)) ∧ (wpX12_start_ pz_M0 (fun (r : Int32) (M : pt_M) => M 0 0 = c0 ∧ (c0 = 0 → r = v0))) := by
  refine ⟨0, 0, ?_, ?_⟩
  · repeat' first
      | (refine ⟨by unfold vp_in; decide +kernel, ?_⟩)
      | (refine ⟨by unfold pt_zb; decide +kernel, ?_⟩)
      | (refine ⟨fun hc => absurd hc (by decide +kernel), fun _ => ?_⟩)
      | (refine ⟨fun _ => ?_, fun hc => absurd hc (by decide +kernel)⟩)
      | (refine ⟨by decide +kernel, ?_⟩)
      | (refine ⟨64, ?_⟩)
      | (refine fun x e => ?_; subst e)
      | decide +kernel
      | (refine fun q => ?_)
  · repeat' first
      | (refine ⟨by unfold vp_in; decide +kernel, ?_⟩)
      | (refine ⟨by unfold pt_zb; decide +kernel, ?_⟩)
      | (refine ⟨fun hc => absurd hc (by decide +kernel), fun _ => ?_⟩)
      | (refine ⟨fun _ => ?_, fun hc => absurd hc (by decide +kernel)⟩)
      | (refine ⟨by decide +kernel, ?_⟩)
      | (refine ⟨64, ?_⟩)
      | (refine fun x e => ?_; subst e)
      | decide +kernel
      | (refine fun q => ?_)
