/-! ===== STARTED ===== -/
def c0C : pC := (0, fun _ => -1, fun _ => 0, fun _ => 0, [])
theorem f_deact {M : pt_M} {p : Nat} {Q : pt_M → Prop} (h : ∀ M', frM p M M' → M' (p + 1) 3 = 0 → (∀ s, s < 20 → M' (p + 2) s = -1) → Q M') : wpX4_deactivate (p + 1) M Q := by
  unfold wpX4_deactivate
  refine eqv ?_
  refine lp_up (S := Int32 × pt_M) (lp := fun k z => lpX4_deactivate_7 (p + 1) Q k z.1 z.2) (lb := fun R z => lbX4_deactivate_7 (p + 1) Q (fun a b => R (a, b)) z.1 z.2) (fun _ _ => rfl) 20 (fun i z => z.1 = nI i ∧ frM p M z.2 ∧ z.2 (p + 1) 3 = 0 ∧ ∀ s, s < i → z.2 (p + 2) s = -1) ?_ (i := 0) (s := (0, pt_st M (p + 1) 3 0)) (Nat.zero_le _) ⟨i0, frM.st (by omega) (by omega), st_at, fun s hs => by omega⟩
  rintro i ⟨x, M1⟩ hi ⟨e, hf, ha, hg⟩ R hR
  dsimp only at e hf ha hg
  subst e
  show lbX4_deactivate_7 (p + 1) Q (fun a b => R (a, b)) (nI i) M1
  unfold lbX4_deactivate_7
  refine ⟨fun q => ?_, fun q => ?_⟩
  rotate_left
  · have hl := lt_of_nI (a := 20) (by omega) (by omega) q
    rw [nI_clamp (by omega)]
    refine ⟨nI_in' hl (by omega), eqv (nx (hR _ hl ⟨rfl, hf.tr (frM.st (by omega) (by omega)), ?_, fun s hs => ?_⟩))⟩
    · dsimp only; rw [pt_st_o (show p + 1 ≠ p + 1 + 1 by omega)]; exact ha
    · show (pt_st M1 (p + 2) i (-1)) (p + 2) s = -1
      rw [pt_st_k]
      show (if s = i then _ else _) = _
      by_cases z : s = i
      · rw [if_pos z]
      · rw [if_neg z]; exact hg s (by omega)
  have e20 : i = 20 := by have := le_of_nI (a := 20) (by omega) (by omega) q; omega
  subst e20
  exact h M1 hf ha hg
theorem f_clear {M : pt_M} {p : Nat} {Q : pt_M → Prop} (h : ∀ M', frM p M M' → M' (p + 1) 3 = 0 → (∀ s, s < 20 → M' (p + 2) s = -1) → (∀ s, s < 20 → M' (p + 3) s = 0) → (∀ s, s < 4 → M' (p + 4) s = 0) → Q M') : wpX4_clear (p + 1) M Q := by
  unfold wpX4_clear
  refine f_deact (fun M1 hf ha hg => ?_)
  refine lp_up (S := Int32 × pt_M) (lp := fun k z => lpX4_clear_6 (p + 1) Q k z.1 z.2) (lb := fun R z => lbX4_clear_6 (p + 1) Q (fun a b => R (a, b)) z.1 z.2) (fun _ _ => rfl) 20 (fun i z => z.1 = nI i ∧ frM p M z.2 ∧ z.2 (p + 1) 3 = 0 ∧ (∀ s, s < 20 → z.2 (p + 2) s = -1) ∧ ∀ s, s < i → z.2 (p + 3) s = 0) ?_ (i := 0) (s := (0, M1)) (Nat.zero_le _) ⟨i0, hf, ha, hg, fun s hs => by omega⟩
  clear hf ha hg M1
  rintro i ⟨x, M1⟩ hi ⟨e, hf, ha, hg, hr⟩ R hR
  dsimp only at e hf ha hg hr
  subst e
  show lbX4_clear_6 (p + 1) Q (fun a b => R (a, b)) (nI i) M1
  unfold lbX4_clear_6
  refine ⟨fun q => ?_, fun q => ?_⟩
  rotate_left
  · have hl := lt_of_nI (a := 20) (by omega) (by omega) q
    rw [nI_clamp (by omega)]
    refine ⟨nI_in' hl (by omega), eqv (nx (hR _ hl ⟨rfl, hf.tr (frM.st (by omega) (by omega)), ?_, ?_, fun s hs => ?_⟩))⟩
    · dsimp only; rw [pt_st_o (show p + 1 ≠ p + 1 + 2 by omega)]; exact ha
    · dsimp only; rw [pt_st_o (show p + 2 ≠ p + 1 + 2 by omega)]; exact hg
    · show (pt_st M1 (p + 3) i 0) (p + 3) s = 0
      rw [pt_st_k]
      show (if s = i then _ else _) = _
      by_cases z : s = i
      · rw [if_pos z]
      · rw [if_neg z]; exact hr s (by omega)
  have e20 : i = 20 := by have := le_of_nI (a := 20) (by omega) (by omega) q; omega
  subst e20
  clear hR
  refine lp_up (S := Int32 × pt_M) (lp := fun k z => lpX4_clear_30 (p + 1) Q k z.1 z.2) (lb := fun R z => lbX4_clear_30 (p + 1) Q (fun a b => R (a, b)) z.1 z.2) (fun _ _ => rfl) 4 (fun i z => z.1 = nI i ∧ frM p M z.2 ∧ z.2 (p + 1) 3 = 0 ∧ (∀ s, s < 20 → z.2 (p + 2) s = -1) ∧ (∀ s, s < 20 → z.2 (p + 3) s = 0) ∧ ∀ s, s < i → z.2 (p + 4) s = 0) ?_ (i := 0) (s := (0, M1)) (Nat.zero_le _) ⟨i0, hf, ha, hg, hr, fun s hs => by omega⟩
  clear hf ha hg hr M1 q hi R
  rintro i ⟨x, M1⟩ hi ⟨e, hf, ha, hg, hr, hv⟩ R hR
  dsimp only at e hf ha hg hr hv
  subst e
  show lbX4_clear_30 (p + 1) Q (fun a b => R (a, b)) (nI i) M1
  unfold lbX4_clear_30
  refine ⟨fun q => ?_, fun q => ?_⟩
  rotate_left
  · have hl := lt_of_nI (a := 4) (by omega) (by omega) q
    rw [nI_clamp (by omega)]
    refine ⟨nI_in' hl (by omega), eqv (nx (hR _ hl ⟨rfl, hf.tr (frM.st (by omega) (by omega)), ?_, ?_, ?_, fun s hs => ?_⟩))⟩
    · dsimp only; rw [pt_st_o (show p + 1 ≠ p + 1 + 3 by omega)]; exact ha
    · dsimp only; rw [pt_st_o (show p + 2 ≠ p + 1 + 3 by omega)]; exact hg
    · dsimp only; rw [pt_st_o (show p + 3 ≠ p + 1 + 3 by omega)]; exact hr
    · show (pt_st M1 (p + 4) i 0) (p + 4) s = 0
      rw [pt_st_k]
      show (if s = i then _ else _) = _
      by_cases z : s = i
      · rw [if_pos z]
      · rw [if_neg z]; exact hv s (by omega)
  have e4 : i = 4 := by have := le_of_nI (a := 4) (by omega) (by omega) q; omega
  subst e4
  exact h M1 hf ha hg hr hv
theorem f_reset {M : pt_M} {p : Nat} {Q : pt_M → Prop} (h : ∀ M', frM p M M' → isC p M' c0C → (∀ t, t < 30 → M' (p + 5) t = 0) → M' p 4 = 0 → M' p 6 = 0 → Q M') : wpX3_reset p M Q := by
  unfold wpX3_reset
  refine f_clear (fun M1 hf ha hg hr hv => ?_)
  refine lp_up (S := Int32 × pt_M) (lp := fun k z => lpX3_reset_9 p Q k z.1 z.2) (lb := fun R z => lbX3_reset_9 p Q (fun a b => R (a, b)) z.1 z.2) (fun _ _ => rfl) 30 (fun i z => z.1 = nI i ∧ frM p M z.2 ∧ z.2 (p + 1) 3 = 0 ∧ (∀ s, s < 20 → z.2 (p + 2) s = -1) ∧ (∀ s, s < 20 → z.2 (p + 3) s = 0) ∧ (∀ s, s < 4 → z.2 (p + 4) s = 0) ∧ ∀ s, s < i → z.2 (p + 5) s = 0) ?_ (i := 0) (s := (0, M1)) (Nat.zero_le _) ⟨i0, hf, ha, hg, hr, hv, fun s hs => by omega⟩
  clear hf ha hg hr hv M1
  rintro i ⟨x, M1⟩ hi ⟨e, hf, ha, hg, hr, hv, ht⟩ R hR
  dsimp only at e hf ha hg hr hv ht
  subst e
  show lbX3_reset_9 p Q (fun a b => R (a, b)) (nI i) M1
  unfold lbX3_reset_9
  refine ⟨fun q => ?_, fun q => ?_⟩
  · have e30 : i = 30 := by have := le_of_nI (a := 30) (by omega) (by omega) q; omega
    subst e30
    refine eqv (eqv (eqv (eqv (h _ ((((hf.tr (frM.st (by omega) (by omega))).tr (frM.st (by omega) (by omega))).tr (frM.st (by omega) (by omega))).tr (frM.st (by omega) (by omega))) ⟨?_, ?_, ?_, ?_, ?_, Nat.zero_le _, fun j x hj => by simp [c0C] at hj⟩ ?_ ?_ ?_))))
    · rw [pt_st_o (by omega), pt_st_o (by omega), pt_st_o (by omega), pt_st_o (by omega)]; exact ha
    · rw [pt_st_o (by omega), pt_st_o (by omega), pt_st_o (by omega), pt_st_o (by omega)]; exact hg
    · rw [pt_st_o (by omega), pt_st_o (by omega), pt_st_o (by omega), pt_st_o (by omega)]; exact hr
    · rw [pt_st_o (by omega), pt_st_o (by omega), pt_st_o (by omega), pt_st_o (by omega)]; exact hv
    · rw [st_at]; exact i0
    · rw [pt_st_o (by omega), pt_st_o (by omega), pt_st_o (by omega), pt_st_o (by omega)]; exact ht
    · rw [st_ne (by decide), st_ne (by decide), st_ne (by decide), st_at]
    · rw [st_ne (by decide), st_at]
  · have hl := lt_of_nI (a := 30) (by omega) (by omega) q
    rw [nI_clamp (by omega)]
    refine ⟨nI_in' hl (by omega), eqv (nx (hR _ hl ⟨rfl, hf.tr (frM.st (by omega) (by omega)), ?_, ?_, ?_, ?_, fun s hs => ?_⟩))⟩
    · dsimp only; rw [pt_st_o (show p + 1 ≠ p + 5 by omega)]; exact ha
    · dsimp only; rw [pt_st_o (show p + 2 ≠ p + 5 by omega)]; exact hg
    · dsimp only; rw [pt_st_o (show p + 3 ≠ p + 5 by omega)]; exact hr
    · dsimp only; rw [pt_st_o (show p + 4 ≠ p + 5 by omega)]; exact hv
    · show (pt_st M1 (p + 5) i 0) (p + 5) s = 0
      rw [pt_st_k]
      show (if s = i then _ else _) = _
      by_cases z : s = i
      · rw [if_pos z]
      · rw [if_neg z]; exact ht s (by omega)
/-- what is FILLED from the ROOT is legal -/
theorem fl_legal {C : pt_M} {n m : Nat} (hO : chO C n m) : lgA C n (flN C n (s1 0)) := by
  obtain ⟨hn, h1, h20⟩ := hO.n
  have e0 : ∀ i, i < 32 → (bt (s1 0) i = true ↔ i = 0) := fun i hi => by rw [b_s1 (by omega) hi, decide_eq_true_eq]
  have why : ∀ i, i < 32 → bt (flN C n (s1 0)) i = true → i = 0 ∨ (i < n ∧ 0 < i ∧ cK C i ≤ 2 ∧ bt (flN C n (s1 0)) (cP C i) = true ∧ bt (C (5 + 3 * cP C i) 6) i = true) := fun i hi h => by
    rcases flN_why h with z | ⟨s, hs, y, w⟩
    · exact Or.inl ((e0 i hi).mp z)
    · obtain ⟨p0, p1, p2, p3, p4⟩ := part_be hO hs hi (fill_sub hO hs hi w)
      rw [p3]
      exact Or.inr ⟨p2, by omega, p4, y, w⟩
  refine ⟨flN_x ((e0 0 (by omega)).mpr rfl), fun i hi h => ?_, fun s hs h => ?_⟩
  · rcases why i hi h with rfl | ⟨a1, a2, a3, a4, a5⟩
    · exact ⟨by omega, by rw [hO.2.2.1.1]; omega, fun z => absurd z (Nat.lt_irrefl _)⟩
    · exact ⟨a1, a3, fun _ => a4⟩
  · have hsn : s < n := by
      rcases why s hs h with rfl | ⟨a1, -⟩
      · omega
      · exact a1
    obtain ⟨f1, f2, f3⟩ := (hO.s hsn).2.2.2.2.1
    refine ⟨fun k0 hp => ?_, fun k1 u hu hp => flN_fill hO hsn h (by rw [f2 k1]; exact hp)⟩
    obtain ⟨f, hf, hb, e⟩ := f1 k0 hp
    refine ⟨f, hf, hb, flN_fill hO hsn h (by rw [e, b_s1 hf hf]; exact decide_eq_true rfl), fun v hv v1 v2 => ?_⟩
    obtain ⟨p0, p1, p2, p3, p4⟩ := part_be hO hsn hv v1
    rcases why v hv v2 with z | ⟨a1, a2, a3, a4, a5⟩
    · omega
    · rw [p3, e, b_s1 hf hv] at a5
      exact of_decide_eq_true a5
