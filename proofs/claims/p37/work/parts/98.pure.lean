/-- the pure side -/
theorem law_pure : ∀ (xL : Nat) (xs : Nat → Int32), xL ≤ 260 → wpL_law xL xs () := by
  intro xL xs _
  unfold wpL_law
  refine eqv (eqv ?_)
  obtain ⟨w, hw, ew⟩ := below_lt (pf_cell xL xs 0) (k := 12) (by omega) (by omega)
  rw [show pf_below (pf_cell xL xs 0) 12 = nI w from ew, show (4 : Int32) + nI w = nI (w + 4) from by rw [Int32.add_comm]; exact nI_add w 4, nI_clamp (by omega)]
  refine f_build (by omega) fun f2 C hR hkd => ?_
  have hC : chE C C := fun _ _ => rfl
  have hO := hR.1
  refine f_start hC hO hR.2.2.2.1 hR.2.2.2.2 fun M hfr hE hfl h4 h6 h130 => ?_
  have h0 : ∃ r, r ≤ 1 ∧ lwI C (w + 4) (w + 4 + 4) 0 r (nI (pcS C (w + 4) (w + 4 + 4)).2.1.length) (pcS C (w + 4) (w + 4 + 4)).1 M := by
    have hs : smF (M 130) (w + 4 + 4) = nI (pcS C (w + 4) (w + 4 + 4)).2.1.length := by
      obtain ⟨f, hf, e⟩ := h130
      have hz : ∀ k, k ≤ 30 → smF f k = 0 := by
        intro k
        induction k with
        | zero => intro _; rfl
        | succ k ih => intro hk; rw [smF, ih (by omega), hf k (by omega)]; rfl
      rw [e]
      have hm := pcF_m (C := C) (n := w + 4) (m := w + 4 + 4) (cs := 11) (c := c1C C (w + 4)) hO
      have := smF_fi (m := w + 4 + 4) (T := (pcS C (w + 4) (w + 4 + 4)).2.1) (f := f) hm
      rw [this, hz _ (by omega), Int32.zero_add]
    have he := pcF_end (C := C) (n := w + 4) (m := w + 4 + 4) (cs := 11) (c := c1C C (w + 4)) (by omega)
    by_cases e : (pcS C (w + 4) (w + 4 + 4)).2.2 = 1
    · rw [if_pos e] at h6
      exact ⟨1, Nat.le_refl _, hE, pcS_inv hO, by rw [h4, nI_0], h6, fun z => absurd z (by omega), hs⟩
    · rw [if_neg e] at h6
      refine ⟨0, by omega, hE, pcS_inv hO, by rw [h4, nI_0], by rw [h6, nI_0], fun _ => ?_, hs⟩
      rcases Nat.lt_or_ge 0 (pcS C (w + 4) (w + 4 + 4)).2.2 with z | z
      · exact Or.inr (he.2 (show (pcS C (w + 4) (w + 4 + 4)).2.2 = 2 by omega))
      · exact Or.inl (he.1 (show (pcS C (w + 4) (w + 4 + 4)).2.2 = 0 by omega))
  obtain ⟨r, hr, hI⟩ := h0
  refine lp_up (S := Int32 × Int32 × Nat × (Nat → Int32) × pt_M) (lp := fun k z => lpL_law_37 xL xs () k z.1 z.2.1 z.2.2.1 z.2.2.2.1 z.2.2.2.2) (lb := fun R z => lbL_law_37 xL xs () (fun a b c d e => R (a, b, c, d, e)) z.1 z.2.1 z.2.2.1 z.2.2.2.1 z.2.2.2.2) (fun _ _ => rfl) 16 (fun k z => ∃ x3 c g r M, z = (x3, nI k, w + 4, f2, M) ∧ lwI C (w + 4) (w + 4 + 4) g r x3 c M ∧ g ≤ k ∧ r ≤ k + 1) ?_ (i := 0) (s := (nI (pcS C (w + 4) (w + 4 + 4)).2.1.length, 0, w + 4, f2, M)) (Nat.zero_le _) ⟨_, _, 0, r, M, by rw [i0], hI, Nat.le_refl _, by omega⟩
  rintro k z hk ⟨x3, c, g, r, M, rfl, hI, hg, hr⟩ R hRR
  show lbL_law_37 xL xs () (fun a b c d e => R (a, b, c, d, e)) x3 (nI k) (w + 4) f2 M
  exact lw_37 (by omega) hI hkd hg hr hk fun x3' c' g' r' M' hk' hI' hg' hr' => hRR _ hk' ⟨x3', c', g', r', M', rfl, hI', hg', by omega⟩
