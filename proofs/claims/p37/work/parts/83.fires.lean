/-! ===== the law: behind one call; the replay of a row ===== -/
theorem lg_self (x : Int64) : lg_cmp x x = 0 := by
  unfold lg_cmp
  rw [if_neg (by rw [gt_iff_lt, Int64.lt_iff_toInt_lt]; omega), if_pos rfl]
section
variable {C : pt_M} {n m : Nat} {xL : Nat} {xs : Nat → Int32} {Q : Unit} {R37 : Int32 → Int32 → Nat → (Nat → Int32) → pt_M → Prop}
theorem lw_238 {M : pt_M} {c : pC} {g k : Nat} {x3 : Int32} {f2 : Nat → Int32} (hE : enO C n m c M) (hI : invC C n g c) (hg : g < 2 ^ 31) (hk : M 125 4 = nI g) (h15 : n ≤ 15) (hf : ∀ s, s < n → f2 s = C (5 + 3 * s) 2) (hs : smF (M 130) m = x3) (hR : R37 x3 (nI (k + 1)) n f2 M) : wjL_law_238 xL xs Q R37 x3 (nI k) n f2 M := by
  obtain ⟨hm, h30⟩ := hE.2.1.m
  have t322 : wjL_law_322 xL xs Q R37 x3 (nI k) n f2 M := by
    unfold wjL_law_322
    exact f_isSound hE hI hg hk h15 hf ⟨fun _ => nx hR, fun q => absurd q (by decide)⟩
  unfold wjL_law_238
  refine lp_up (S := Int32 × Int32 × Int32 × Int32 × Int32 × Nat × (Nat → Int32) × pt_M) (lp := fun k z => lpL_law_247 xL xs Q R37 k z.1 z.2.1 z.2.2.1 z.2.2.2.1 z.2.2.2.2.1 z.2.2.2.2.2.1 z.2.2.2.2.2.2.1 z.2.2.2.2.2.2.2) (lb := fun R z => lbL_law_247 xL xs Q R37 (fun a b c d e f g h => R (a, b, c, d, e, f, g, h)) z.1 z.2.1 z.2.2.1 z.2.2.2.1 z.2.2.2.2.1 z.2.2.2.2.2.1 z.2.2.2.2.2.2.1 z.2.2.2.2.2.2.2) (fun _ _ => rfl) m (fun i z => z = (x3, nI k, smF (M 130) i, cvF (M 130) i, nI i, n, f2, M)) ?_ (i := 0) (s := (x3, nI k, 0, 0, 0, n, f2, M)) (Nat.zero_le _) (by rw [i0]; rfl)
  rintro i z hi rfl R hRR
  show lbL_law_247 xL xs Q R37 (fun a b c d e f g h => R (a, b, c, d, e, f, g, h)) x3 (nI k) (smF (M 130) i) (cvF (M 130) i) (nI i) n f2 M
  unfold lbL_law_247 wpX7_transitions
  rw [hE.1 1 (by omega), hm]
  refine ⟨fun q => ?_, fun q => ?_⟩
  · have hh := le_of_nI (by omega) (by omega) q
    have e : i = m := by omega
    subst e
    refine ⟨fun z => absurd hs z, fun _ => f_covered hE.1 hE.2.1 ⟨fun z => absurd rfl z, fun _ => f_isOver hE (brp0 (fun _ => t322) (fun z => f_isEnded0 hE z ⟨fun z => absurd z (by decide), fun _ => t322⟩))⟩⟩
  · have hl := lt_of_nI (by omega) (by omega) q
    unfold wjL_law_283
    refine f_fired hE.1 hE.2.1 hl (eqv (f_fired hE.1 hE.2.1 hl ⟨fun z => eqv (nx (hRR _ hl ?_)), fun z => eqv (nx (hRR _ hl ?_))⟩))
    · rw [smF, cvF, if_pos z, Int32.add_zero]
    · rw [smF, cvF, if_neg z]
/-- what the law knows between two calls -/
def lwI (C : pt_M) (n m g r : Nat) (x3 : Int32) (c : pC) (M : pt_M) : Prop := enO C n m c M ∧ invC C n g c ∧ M 125 4 = nI g ∧ M 125 6 = nI r ∧ (r = 0 → ((C 5 5 &&& C 1 6) &&& c.1) ≠ 0 ∨ seC C n m c) ∧ smF (M 130) m = x3
theorem lw_step {M M' : pt_M} {c : pC} {g g' r cs : Nat} {x3 : Int32} (hI : lwI C n m g r x3 c M) (hr : r < 1000) (hE' : enO C n m (pcF C n m cs c).1 M') (h4 : M' 125 4 = nI g') (hg : g' = if ¬ ((C 5 5 &&& C 1 6) &&& c.1) ≠ 0 ∧ cs = 10 then g + 1 else g) (h6 : M' 125 6 = (if (pcF C n m cs c).2.2 = 1 then M 125 6 + 1 else M 125 6)) (h130 : M' 130 = fiF (pcF C n m cs c).2.1 (M 130)) (hfl : (pcF C n m cs c).2.2 < 3) : ∃ r', r' ≤ r + 1 ∧ lwI C n m g' r' (x3 + nI (pcF C n m cs c).2.1.length) (pcF C n m cs c).1 M' := by
  obtain ⟨hE, hinv, hk, h6o, hz, hs⟩ := hI
  have hO := hE.2.1
  have hn : n ≤ 32 := by have := hO.n.2.2; omega
  have hinv' : invC C n g' (pcF C n m cs c).1 := by rw [hg]; exact pcF_inv hO hinv
  have hs' : smF (M' 130) m = x3 + nI (pcF C n m cs c).2.1.length := by rw [h130, smF_fi (pcF_m hO), hs]
  by_cases e : (pcF C n m cs c).2.2 = 1
  · rw [if_pos e, h6o, nI_s1] at h6
    exact ⟨r + 1, Nat.le_refl _, hE', hinv', h4, h6, fun z => absurd z (Nat.succ_ne_zero _), hs'⟩
  · rw [if_neg e, h6o] at h6
    refine ⟨r, Nat.le_succ _, hE', hinv', h4, h6, fun _ => ?_, hs'⟩
    have he := pcF_end (C := C) (n := n) (m := m) (cs := cs) (c := c) hn
    rcases Nat.lt_or_ge 0 (pcF C n m cs c).2.2 with z | z
    · exact Or.inr (he.2 (by omega))
    · exact Or.inl (he.1 (by omega))
theorem rnC_inv (hO : chO C n m) : ∀ {L : List Nat} {c : pC} {g : Nat}, invC C n g c → ∃ g', invC C n g' (rnC C n m L c)
  | [], _, g, h => ⟨g, h⟩
  | e :: L, c, g, h => by
    have h1 : invC C n g (lqC c) := h
    exact rnC_inv (L := L) (c := (pcF C n m e (lqC c)).1) hO (pcF_inv (cs := e) hO h1)
theorem lw_505 {M : pt_M} {c : pC} {s : Nat} {x6 : Int32} {f7 : Nat → Int32} {L : List Nat} (hE : enO C n m c M) (hs : s < n) (hL2 : L.length ≤ 2) (hL10 : ∀ e ∈ L, e ≤ 10) (hf : ∀ i e, L[i]? = some e → f7 i = nI e) (h6 : x6 = nI L.length ∨ (L = [] ∧ x6 = -1)) (hb : ¬ x6 < 0 → bt (rnC C n m L c).1 s = true) : ∃ q, lpL_law_505 xL xs Q q (nI s) x6 0 f7 M := by
  obtain ⟨hn, hn1, h20⟩ := hE.2.1.n
  have hx : ∀ i, i ≤ 2 → (x6 ≤ nI i ↔ L.length ≤ i) := by
    intro i hi
    rcases h6 with e | ⟨e1, e2⟩
    · rw [e, nI_leI (by omega) (by omega)]
    · rw [e1, e2]
      have h0 : (-1 : Int32) ≤ nI i := Int32.le_trans (by decide : (-1 : Int32) ≤ nI 0) (nI_le (Nat.zero_le _) (by omega))
      exact ⟨fun _ => Nat.zero_le _, fun _ => h0⟩
  refine lp_up (S := Int32 × Int32 × Int32 × (Nat → Int32) × pt_M) (lp := fun k z => lpL_law_505 xL xs Q k z.1 z.2.1 z.2.2.1 z.2.2.2.1 z.2.2.2.2) (lb := fun R z => lbL_law_505 xL xs Q (fun a b c d e => R (a, b, c, d, e)) z.1 z.2.1 z.2.2.1 z.2.2.2.1 z.2.2.2.2) (fun _ _ => rfl) L.length (fun i z => ∃ c' M', z = (nI s, x6, nI i, f7, M') ∧ enO C n m c' M' ∧ rnC C n m (L.drop i) c' = rnC C n m L c) ?_ (i := 0) (s := (nI s, x6, 0, f7, M)) (Nat.zero_le _) ⟨c, M, by rw [i0], hE, rfl⟩
  rintro i z hi ⟨c', M', rfl, hE', hc'⟩ R hRR
  show lbL_law_505 xL xs Q (fun a b c d e => R (a, b, c, d, e)) (nI s) x6 (nI i) f7 M'
  unfold lbL_law_505 wjL_law_565 wjL_law_570 wpX7_active
  rw [hx i (by omega)]
  refine ⟨fun q => ⟨fun _ => rfl, fun q2 => ?_⟩, fun q => ?_⟩
  · rw [show M' (125 + 1) 3 = c'.1 from hE'.2.2.2.1.1]
    have e : i = L.length := by omega
    subst e
    rw [List.drop_length] at hc'
    have hb' := hb q2
    rw [← hc'] at hb'
    exact ⟨fun z => absurd ((b_has1 (by omega)).mpr hb') z, fun _ => rfl⟩
  · have hl : i < L.length := by omega
    have hin := nI_in' (c := i) (N := 2) (by omega) (by omega)
    have hget : L[i]? = some L[i] := List.getElem?_eq_getElem hl
    have h10 : L[i] ≤ 10 := hL10 _ (List.getElem_mem hl)
    have hdr : L.drop i = L[i] :: L.drop (i + 1) := List.drop_eq_getElem_cons hl
    rw [hdr] at hc'
    have hq : lqC c' = c' := lqC_id hE'.2.2.2.2.1
    rw [rnC, hq] at hc'
    rw [nI_clamp (by omega), hf i _ hget]
    unfold wjL_law_541
    generalize L[i] = e at hc' h10
    have h10' : (10 : Int32) ≤ nI e ↔ 10 ≤ e := nI_leI (a := 10) (by omega) (by omega)
    rw [h10']
    refine ⟨hin, fun q => ?_, fun q => ⟨hin, ?_⟩⟩
    · have e10 : e = 10 := by omega
      subst e10
      exact f_tick hE' fun M2 _ hE2 _ _ _ _ => nx (hRR _ hl ⟨_, M2, rfl, hE2, hc'⟩)
    · exact f_send hE' (by omega) fun M2 _ hE2 _ _ _ _ => nx (hRR _ hl ⟨_, M2, rfl, hE2, hc'⟩)
theorem lw_450 {M : pt_M} {c : pC} {s : Nat} {x6 : Int32} {f7 : Nat → Int32} {L : List Nat} (hE : enO C n m c M) (hs : s < n) (hL2 : L.length ≤ 2) (hL10 : ∀ e ∈ L, e ≤ 10) (hf : ∀ i e, L[i]? = some e → f7 i = nI e) (hf' : ∀ i, i < 2 → L.length ≤ i → f7 i = -1) (h6 : x6 = nI L.length ∨ (L = [] ∧ x6 = -1)) (hb : ¬ x6 < 0 → bt (rnC C n m L c).1 s = true) : ∃ q, lpL_law_450 xL xs Q q (nI s) x6 0 f7 M := by
  have hx : ∀ i, i ≤ 2 → (x6 ≤ nI i ↔ L.length ≤ i) := by
    intro i hi
    rcases h6 with e | ⟨e1, e2⟩
    · rw [e, nI_leI (by omega) (by omega)]
    · rw [e1, e2]
      have h0 : (-1 : Int32) ≤ nI i := Int32.le_trans (by decide : (-1 : Int32) ≤ nI 0) (nI_le (Nat.zero_le _) (by omega))
      exact ⟨fun _ => Nat.zero_le _, fun _ => h0⟩
  refine lp_up (S := Int32 × Int32 × Int32 × (Nat → Int32) × pt_M) (lp := fun k z => lpL_law_450 xL xs Q k z.1 z.2.1 z.2.2.1 z.2.2.2.1 z.2.2.2.2) (lb := fun R z => lbL_law_450 xL xs Q (fun a b c d e => R (a, b, c, d, e)) z.1 z.2.1 z.2.2.1 z.2.2.2.1 z.2.2.2.2) (fun _ _ => rfl) 2 (fun i z => z = (nI s, x6, nI i, f7, M)) ?_ (i := 0) (s := (nI s, x6, 0, f7, M)) (Nat.zero_le _) (by rw [i0])
  rintro i z hi rfl R hRR
  show lbL_law_450 xL xs Q (fun a b c d e => R (a, b, c, d, e)) (nI s) x6 (nI i) f7 M
  unfold lbL_law_450 wjL_law_469 wjL_law_481
  rw [hx i hi, nI_clamp (by omega)]
  refine ⟨fun q => lw_505 hE hs hL2 hL10 hf h6 hb, fun q => ?_⟩
  have hl : i < 2 := by
    rcases Nat.lt_or_ge i 2 with z | z
    · exact z
    · exact absurd (nI_le (a := 2) z (by omega)) q
  have hin := nI_in' (c := i) (N := 2) hl (by omega)
  refine ⟨hin, ?_⟩
  rcases Nat.lt_or_ge i L.length with z | z
  · have hget : L[i]? = some L[i] := List.getElem?_eq_getElem z
    have h10 : L[i] ≤ 10 := hL10 _ (List.getElem_mem z)
    rw [hf i _ hget]
    refine ⟨fun y => absurd y (nI_pos (by omega)), fun _ => ⟨fun y => absurd y (by omega), fun _ => ⟨fun y => absurd rfl y, fun _ => ⟨hin, fun _ => nx (hRR _ hl rfl), fun y => absurd (nI_le (b := 10) h10 (by omega)) y⟩⟩⟩⟩
  · rw [hf' i hl z]
    refine ⟨fun _ => ⟨fun _ => ⟨fun y => absurd rfl y, fun _ => ⟨hin, fun _ => nx (hRR _ hl rfl), fun y => absurd (by decide) y⟩⟩, fun y => absurd z y⟩, fun y => absurd (by decide) y⟩
end
