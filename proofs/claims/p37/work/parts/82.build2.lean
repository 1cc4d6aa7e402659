/-! ===== build: its transitions, its loops ===== -/
section
variable {xL N : Nat} {xs : Nat → Int32} {Q : (Nat → Int32) → pt_M → Prop} {R328 : Int32 → Int32 → (Nat → Int32) → pt_M → Prop}
theorem nI_1a (w : Nat) : 1 + nI w = nI (w + 1) := by rw [Int32.add_comm]; exact nI_s1 w
theorem bu_491 {m k f g how : Nat} {to x13 : Int32} {f7 : Nat → Int32} {M : pt_M} (hN : 4 ≤ N ∧ N ≤ 15) (hm : m < N + 4) (hR : rsO M N m) (hf : f < N) (hk : cK M f ≤ 1) (hg : g < 4) (hh : how < 4) (hto : to = -1 ∨ (0 < f ∧ ∃ t, 0 < t ∧ t < N ∧ to = nI t)) (hkd : kdO f7 M N) (h : ∀ M', rsO M' N (m + 1) → kdO f7 M' N → R328 (nI (m + 1)) (nI (k + 1)) f7 M') : wjL_build_491 xL xs (nI N) 5 4 4 Q R328 (nI m) (nI k) x13 (nI f) to (nI g) (nI how) f7 M := by
  have hc : (nI N + 4).toNatClampNeg = N + 4 := by rw [show nI N + 4 = nI (N + 4) from nI_add N 4, nI_clamp (by omega)]
  have hin := nI_in' (c := m) (N := N + 4) hm (by omega)
  unfold wjL_build_491 wjL_build_660
  rw [hc]
  refine f_doing fun fd hd => ?_
  intro f516 e516 f521 e521 r530 e530 f534 e534 f539 e539 f544 e544 r552 e552 f555 e555 r565 e565 f570 e570 f578 e578 f586 e586 f594 e594
  obtain ⟨w2, h2, q2⟩ := below_lt (x13 >>> (2 &&& 31)) (k := 3) (by omega) (by omega)
  obtain ⟨w5, h5, q5⟩ := below_lt (x13 >>> (3 &&& 31)) (k := 4) (by omega) (by omega)
  obtain ⟨w6, h6, q6⟩ := below_lt (x13 >>> (6 &&& 31)) (k := 5) (by omega) (by omega)
  have v2 : f594 (Int32.toNatClampNeg 2) = nI (w2 + 1) := by
    rw [e594, e586, e578, e570, e555, e544, e539, e534]
    show 1 + r530 = _
    rw [e530, show pf_below (x13 >>> (2 &&& 31)) 3 = nI w2 from q2, nI_1a]
  have v5 : f594 (Int32.toNatClampNeg 5) = nI w5 := by
    rw [e594, e586, e578, e570, e555]
    show r552 = _
    rw [e552, show pf_below (x13 >>> (3 &&& 31)) 4 = nI w5 from q5]
  have v6 : f594 (Int32.toNatClampNeg 6) = nI w6 - 2 := by
    rw [e594, e586, e578, e570]
    show r565 - 2 = _
    rw [e565, show pf_below (x13 >>> (6 &&& 31)) 5 = nI w6 from q6]
  obtain ⟨c, w, z, ⟨d1, d2⟩, ⟨d3, d4⟩, d5, d6⟩ := hd
  rw [v2, v5, v6, show fd (Int32.toNatClampNeg 0) = nI c from d1, show fd (Int32.toNatClampNeg 1) = nI w from d3, show fd (Int32.toNatClampNeg 2) = nI z - 3 from d5]
  refine ⟨hin, hin, f_addTransition hR (by omega) hf hk hg (by omega) hto fun M1 hR1 hs1 => ⟨hin, hin, ?_⟩⟩
  refine f_setGuard hR1 (by omega) hh h5 (dO_g w6 h6).1 (dO_g w6 h6).2 fun r M2 hR2 hs2 => ?_
  refine f_setAction hR2 (by omega) d2 d4 (dO_b z d6).1 (dO_b z d6).2 fun r M3 hR3 hs3 => ?_
  exact nx (nx (h M3 hR3 (((hkd.mv hs1).mv hs2).mv hs3)))
/-- how much is left -/
def muB (N k m : Nat) : Nat := if k ≤ 200 then (201 - k) + (N + 4) else N + 4 - m
theorem bu_384 {m k f : Nat} {x13 : Int32} {f7 : Nat → Int32} {M : pt_M} (hN : 4 ≤ N ∧ N ≤ 15) (hm : m < N + 4) (hk300 : k < 300) (hR : rsO M N m) (hf : f < N) (hf0 : 200 < k → f = 0) (hkd : kdO f7 M N) (h : ∀ M', rsO M' N (m + 1) → kdO f7 M' N → R328 (nI (m + 1)) (nI (k + 1)) f7 M') (h' : k ≤ 200 → R328 (nI m) (nI (k + 1)) f7 M) : wjL_build_384 xL xs (nI N) 5 4 4 Q R328 (nI m) (nI k) x13 (nI f) f7 M := by
  have hc : (nI N).toNatClampNeg = N := nI_clamp (by omega)
  have hcf : (nI f).toNatClampNeg = f := nI_clamp (by omega)
  have hin := nI_in' (c := f) (N := N) hf (by omega)
  have hle : nI k ≤ 200 ↔ k ≤ 200 := nI_leI (b := 200) (by omega) (by omega)
  have t451 : ∀ (to : Int32) (g : Nat), g < 4 → (to = -1 ∨ (0 < f ∧ ∃ t, 0 < t ∧ t < N ∧ to = nI t)) → wjL_build_451 xL xs (nI N) 5 4 4 Q R328 (nI m) (nI k) x13 (nI f) to (nI g) f7 M := by
    intro to g hg hto
    obtain ⟨w4, h4, q4⟩ := below_lt (x13 >>> (4 &&& 31)) (k := 5) (by omega) (by omega)
    obtain ⟨w5, h5, q5⟩ := below_lt (x13 >>> (5 &&& 31)) (k := 3) (by omega) (by omega)
    unfold wjL_build_451 wjL_build_660
    rw [hc, hcf, hkd f hf]
    refine ⟨hin, fun q => eqv ?_, fun q => nx (h' ?_)⟩
    · have hkf : cK M f ≤ 1 := (k_le hR.1 hf (k := 1) (by omega)).mp q
      refine ⟨fun _ => eqv ?_, fun _ => bu_491 (how := 0) hN hm hR hf hkf hg (by omega) hto hkd h⟩
      rw [show pf_below (x13 >>> (5 &&& 31)) 3 = nI w5 from q5, nI_1a]
      exact bu_491 hN hm hR hf hkf hg (by omega) hto hkd h
    · rcases Nat.lt_or_ge 200 k with z | z
      · have e := hf0 z
        subst e
        exact absurd ((k_le hR.1 hf (k := 1) (by omega)).mpr (by rw [hR.1.2.2.1.1]; omega)) q
      · exact z
  have t428 : ∀ to : Int32, (to = -1 ∨ (0 < f ∧ ∃ t, 0 < t ∧ t < N ∧ to = nI t)) → wjL_build_428 xL xs (nI N) 5 4 4 Q R328 (nI m) (nI k) x13 (nI f) to f7 M := by
    intro to hto
    obtain ⟨w3, h3, q3⟩ := below_lt (x13 >>> (3 &&& 31)) (k := 4) (by omega) (by omega)
    unfold wjL_build_428
    refine ⟨fun _ => ⟨by decide, eqv ?_⟩, fun _ => t451 to 0 (by omega) hto⟩
    rw [show pf_below (x13 >>> (3 &&& 31)) 4 = nI w3 from q3]
    exact t451 to w3 h3 hto
  have t397 : wjL_build_397 xL xs (nI N) 5 4 4 Q R328 (nI m) (nI k) x13 (nI f) f7 M := t428 (-1) (Or.inl rfl)
  unfold wjL_build_384
  refine ⟨fun _ => t397, fun q => ⟨fun _ => eqv ⟨fun _ => ?_, fun _ => t428 (-1) (Or.inl rfl)⟩, fun _ => t397⟩⟩
  obtain ⟨N', rfl⟩ : ∃ N', N = N' + 1 := ⟨N - 1, by omega⟩
  rw [nI_pred]
  obtain ⟨w1, h1, q1⟩ := below_lt (x13 >>> (1 &&& 31)) (k := N') (by omega) (by omega)
  refine ⟨nI_ne0 (by omega) (by omega), eqv ?_⟩
  rw [q1, nI_1a]
  have f0 : 0 < f := Nat.pos_of_ne_zero fun e => q (by rw [e]; rfl)
  exact t428 _ (Or.inr ⟨f0, w1 + 1, by omega, by omega, rfl⟩)
theorem bu_328 {f7 : Nat → Int32} {M : pt_M} (hN : 4 ≤ N ∧ N ≤ 15) (hR : rsO M N 0) (hkd : kdO f7 M N) (h : ∀ M', rsO M' N (N + 4) → kdO f7 M' N → Q f7 M') : lpL_build_328 xL xs (nI N) 5 4 4 Q 300 0 0 f7 M := by
  have hc : (nI N + 4).toNatClampNeg = N + 4 := by rw [show nI N + 4 = nI (N + 4) from nI_add N 4, nI_clamp (by omega)]
  refine lp_wf (S := Int32 × Int32 × (Nat → Int32) × pt_M) (lp := fun k z => lpL_build_328 xL xs (nI N) 5 4 4 Q k z.1 z.2.1 z.2.2.1 z.2.2.2) (lb := fun R z => lbL_build_328 xL xs (nI N) 5 4 4 Q (fun a b c d => R (a, b, c, d)) z.1 z.2.1 z.2.2.1 z.2.2.2) (fun _ _ => rfl) (fun u z => ∃ m k M, z = (nI m, nI k, f7, M) ∧ u = muB N k m ∧ m ≤ N + 4 ∧ k ≤ 201 + m ∧ rsO M N m ∧ kdO f7 M N) ?_ 300 (muB N 0 0) (0, 0, f7, M) ?_ ⟨0, 0, M, by rw [i0], rfl, by omega, by omega, hR, hkd⟩
  · rintro u z ⟨m, k, M, rfl, rfl, hm, hk, hR, hkd⟩ R hRR
    show lbL_build_328 xL xs (nI N) 5 4 4 Q (fun a b c d => R (a, b, c, d)) (nI m) (nI k) f7 M
    have hle : nI k ≤ 200 ↔ k ≤ 200 := nI_leI (b := 200) (by omega) (by omega)
    unfold lbL_build_328
    rw [hc]
    refine ⟨fun q => ?_, fun q => ⟨by decide, ?_, fun r344 _ => ⟨by decide, by decide, fun x13 _ => ⟨nI_ne0 (by omega) (by omega), eqv ?_⟩⟩⟩⟩
    · have hh : N + 4 ≤ m := (nI_leI (a := N + 4) (b := m) (by omega) (by omega)).mp q
      have e : m = N + 4 := by omega
      subst e
      exact h M hR hkd
    · rw [show nI k + 5 = nI (k + 5) from nI_add k 5]
      exact rem_pos (b := 16) (by omega) (by omega) (by omega)
    · have hml : m < N + 4 := by
        rcases Nat.lt_or_ge m (N + 4) with z | z
        · exact z
        · exact absurd ((nI_leI (a := N + 4) (b := m) (by omega) (by omega)).mpr z) q
      obtain ⟨f, hf, ef⟩ := below_lt x13 (k := N) (by omega) (by omega)
      rw [ef]
      refine ⟨fun q2 => ?_, fun q2 => ?_⟩
      · have hk2 := hle.mp q2
        refine bu_384 hN hml (by omega) hR hf (fun z => by omega) hkd (fun M' hR' hkd' => hRR (muB N (k + 1) (m + 1)) _ ?_ ⟨m + 1, k + 1, M', rfl, rfl, by omega, by omega, hR', hkd'⟩) (fun _ => hRR (muB N (k + 1) m) _ ?_ ⟨m, k + 1, M, rfl, rfl, by omega, by omega, hR, hkd⟩)
        · unfold muB; split <;> (try split) <;> omega
        · unfold muB; split <;> (try split) <;> omega
      · have hk2 : ¬ k ≤ 200 := fun z => q2 (hle.mpr z)
        refine bu_384 (f := 0) hN hml (by omega) hR (by omega) (fun _ => rfl) hkd (fun M' hR' hkd' => hRR (muB N (k + 1) (m + 1)) _ ?_ ⟨m + 1, k + 1, M', rfl, rfl, by omega, by omega, hR', hkd'⟩) (fun z => absurd z hk2)
        unfold muB; split <;> (try split) <;> omega
  · unfold muB; split <;> omega
theorem rs0 : rsO pt_M0 1 0 := by
  have hS : ∀ s, s < 20 → ∀ j, pt_M0 (5 + 3 * s) j = if j = 3 then -1 else if j = 4 then -1 else 0 := fun s hs j => by rw [pt_M0S (j := j) hs]
  have hT : ∀ s, s < 30 → ∀ j, pt_M0 (65 + 2 * s) j = if j = 4 then -1 else if j = 5 then -1 else 0 := fun s hs j => by rw [pt_M0T hs]
  have hA : ∀ s, s < 20 → pt_M0 (5 + 3 * s + 1) 0 = 0 ∧ pt_M0 (5 + 3 * s + 2) 0 = 0 := by decide +kernel
  have hB : ∀ t, t < 30 → pt_M0 (65 + 2 * t + 1) 0 = 0 := by decide +kernel
  have k0 : cK pt_M0 0 = 0 := by
    unfold cK
    rw [hS 0 (by omega), if_neg (by decide), if_neg (by decide)]; rfl
  have h5 : pt_M0 (5 + 3 * 0) 5 = 0 := hS 0 (by omega) 5
  have h6 : pt_M0 (5 + 3 * 0) 6 = 0 := hS 0 (by omega) 6
  have h7 : pt_M0 (5 + 3 * 0) 7 = 0 := hS 0 (by omega) 7
  refine ⟨⟨⟨rfl, by omega, by omega⟩, ⟨rfl, by omega⟩, ⟨k0, hS 0 (by omega) 3⟩, fun s hs => ?_, fun t ht => absurd ht (Nat.not_lt_zero _), fun i hi => ?_, fun i hi => ?_⟩, fun s h1 h2 => ⟨hS s h2 5, hS s h2 6, hS s h2 7, (hA s h2).1, (hA s h2).2⟩, fun t _ ht => ⟨hT t ht 6, hB t ht⟩, rfl, ⟨rfl, Nat.zero_le _, fun i x e => by cases e⟩⟩
  · have e : s = 0 := by omega
    subst e
    refine ⟨⟨by rw [k0]; exact hS 0 (by omega) 2, by omega⟩, fun z => absurd z (Nat.lt_irrefl _), fun i hi => ?_, fun i hi => ?_, ⟨fun _ z => absurd h5 z, fun _ => by rw [h5, h6], fun _ => h6⟩, ac_0 (hA 0 (by omega)).1, ac_0 (hA 0 (by omega)).2⟩
    · rw [h5, b_0]
      exact ⟨fun z => (by cases z), fun z => by omega⟩
    · rw [h7, b_0]
      exact ⟨fun z => (by cases z), fun z => by omega⟩
  · rw [show pt_M0 1 5 = s1 0 from rfl, b_s1 (by omega) hi, decide_eq_true_eq]
    exact ⟨fun z => by subst z; exact ⟨by omega, by omega, h5⟩, fun z => by omega⟩
  · rw [show pt_M0 1 6 = 0 from rfl, b_0]
    constructor
    · intro z; cases z
    · intro z
      have e : i = 0 := by omega
      subst e
      rw [k0] at z
      omega
theorem f_build (hN : 4 ≤ N ∧ N ≤ 15) (h : ∀ f7 M, rsO M N (N + 4) → kdO f7 M N → Q f7 M) : wpL_build xL xs (nI N) 5 4 4 pt_M0 Q := by
  have hc : (nI N).toNatClampNeg = N := nI_clamp (by omega)
  have hp := nI_pos (n := N) (by omega)
  unfold wpL_build
  rw [hc]
  refine ⟨hp, by omega, hp, by omega, hp, by omega, hp, by omega, nI_in' (c := 0) (N := N) (by omega) (by omega), eqv ⟨64, by omega, ?_⟩⟩
  refine lp_wf (S := Int32 × (Nat → Int32) × (Nat → Int32) × pt_M) (lp := fun k z => lpL_build_30 xL xs (nI N) 5 4 4 Q k z.1 z.2.1 z.2.2.1 z.2.2.2) (lb := fun R z => lbL_build_30 xL xs (nI N) 5 4 4 Q (fun a b c d => R (a, b, c, d)) z.1 z.2.1 z.2.2.1 z.2.2.2) (fun _ _ => rfl) (fun u z => ∃ i f6 f7 M, z = (nI i, f6, f7, M) ∧ u = N - i ∧ i ≤ N ∧ rsO M (max i 1) 0 ∧ kdO f7 M (max i 1)) ?_ 64 N (0, _, _, pt_M0) (by omega) ⟨0, _, _, pt_M0, by rw [i0], rfl, by omega, rs0, fun s hs => ?_⟩
  · rintro u z ⟨i, f6, f7, M, rfl, rfl, hi, hR, hk⟩ R hRR
    show lbL_build_30 xL xs (nI N) 5 4 4 Q (fun a b c d => R (a, b, c, d)) (nI i) f6 f7 M
    have hci : (nI i).toNatClampNeg = i := nI_clamp (by omega)
    unfold lbL_build_30
    refine ⟨fun q => ?_, fun q => ⟨by decide, rem_pos (b := 16) (by omega) (by omega) (by omega), fun r42 _ => ⟨by decide, fun x11 _ => ?_⟩⟩⟩
    · have hh := le_of_nI (by omega) (by omega) q
      have e : i = N := by omega
      subst e
      rw [show max i 1 = i by omega] at hR hk
      rw [show nI i + 4 = nI (i + 4) from nI_add i 4, nI_clamp (by omega)]
      exact ⟨nI_pos (by omega), by omega, 300, by omega, bu_328 hN hR hk (h f7)⟩
    · have hil : i < N := lt_of_nI (by omega) (by omega) q
      have go : ∀ f6 f7 M', rsO M' (i + 1) 0 → kdO f7 M' (i + 1) → R (nI (i + 1), f6, f7, M') := fun f6 f7 M' a b => hRR (N - (i + 1)) _ (by omega) ⟨i + 1, f6, f7, M', rfl, rfl, by omega, by rw [show max (i + 1) 1 = i + 1 by omega]; exact a, by rw [show max (i + 1) 1 = i + 1 by omega]; exact b⟩
      refine ⟨fun q2 => ?_, fun q2 => ?_⟩
      · have e : i = 0 := by
          have := (nI_leI (a := i) (b := 0) (by omega) (by omega)).mp q2
          omega
        subst e
        exact bu_156 hN.2 hil hR hk (go _ _)
      · have h0 : 0 < i := Nat.pos_of_ne_zero fun e => q2 (by rw [e]; exact (by decide : nI 0 ≤ 0))
        rw [show max i 1 = i by omega] at hR hk
        obtain ⟨p, hp', ep⟩ := below_lt (x11 >>> (1 &&& 31)) (k := i) h0 (by omega)
        refine ⟨nI_ne0 h0 (by omega), eqv ?_⟩
        rw [ep, hc, hci]
        exact ⟨nI_in' hil (by omega), eqv (bu_77 hN.2 hil hR h0 hk hp' (if_pos rfl) go)⟩
  · have e : s = 0 := by
      have : max 0 1 = 1 := rfl
      omega
    subst e
    rfl
end
