-- a closed run, walked to its end
set_option maxHeartbeats 8000000 in
set_option maxRecDepth 100000 in
theorem pu_33 (xs : Nat → Int32) : ∃ v0 : Int64, (wpX7_digest pt_M0 (fun (r : Int64) (_ : pt_M) => r = v0)) ∧ (wpX12_digest pz_M0 (fun (r : Int64) (_ : pt_M) => r = v0)) := by
  refine ⟨(2303216548591667401), ?_, ?_⟩
  · repeat' first
      | (refine ⟨by unfold vp_in; decide +kernel, ?_⟩)
      | (refine ⟨by unfold pt_zb; decide +kernel, ?_⟩)
      | (refine ⟨fun hc => absurd hc (by decide +kernel), fun _ => ?_⟩)
      | (refine ⟨fun _ => ?_, fun hc => absurd hc (by decide +kernel)⟩)
      | (refine ⟨by decide +kernel, ?_⟩)
      | (refine ⟨64, ?_⟩)
      | (refine fun x e => ?_; subst e)
      | decide +kernel
      | (refine fun q => ?_)
  · repeat' first
      | (refine ⟨by unfold vp_in; decide +kernel, ?_⟩)
      | (refine ⟨by unfold pt_zb; decide +kernel, ?_⟩)
      | (refine ⟨fun hc => absurd hc (by decide +kernel), fun _ => ?_⟩)
      | (refine ⟨fun _ => ?_, fun hc => absurd hc (by decide +kernel)⟩)
      | (refine ⟨by decide +kernel, ?_⟩)
      | (refine ⟨64, ?_⟩)
      | (refine fun x e => ?_; subst e)
      | decide +kernel
      | (refine fun q => ?_)
