/-! ===== rowTo ===== -/
section
variable {C : pt_M} {n m : Nat}
theorem lkE.chE {M0 M : pt_M} (hC : chE C M0) (h : lkE M0 M) : chE C M := fun k hk => (h.1 k (by omega)).trans (hC k hk)
theorem f_search1 {M0 M : pt_M} {c : pC} {P : Nat → List Nat} {k i s : Nat} {Q : Int32 → pt_M → Prop} {R60 : Int32 → pt_M → Prop} (hC : chE C M0) (hO : chO C n m) (hs : s < n) (hE : lkE M0 M) (hL : lkO C n m c P k M) (hi : i < k) (hl : (P i).length < 2)
    (hR : ∀ M' P' k', lkE M0 M' → lkO C n m c P' k' M' → k ≤ k' → R60 (nI (i + 1)) M')
    (hQ : ∀ M' L, lkE M0 M' → rowO L M' → 0 < L.length → L.length ≤ 2 → (∀ e ∈ L, e ≤ 10) → bt (rnC C n m L c).1 s = true → Q (nI L.length) M') : ∃ q, lpX2_search_103 126 (nI s) (-1) 2 Q R60 q (nI i) 0 M := by
  obtain ⟨hn, hn1, h20⟩ := hO.n
  have h60 := hL.2.2.1
  refine lp_up (S := Int32 × Int32 × pt_M) (lp := fun k z => lpX2_search_103 126 (nI s) (-1) 2 Q R60 k z.1 z.2.1 z.2.2) (lb := fun R z => lbX2_search_103 126 (nI s) (-1) 2 Q R60 (fun a b c => R (a, b, c)) z.1 z.2.1 z.2.2) (fun _ _ => rfl) 11 (fun j z => ∃ M1 P1 k1, z = (nI i, nI j, M1) ∧ lkE M0 M1 ∧ lkO C n m c P1 k1 M1 ∧ k ≤ k1 ∧ P1 i = P i) ?_ (i := 0) (s := (nI i, 0, M)) (Nat.zero_le _) ⟨M, P, k, by rw [i0], hE, hL, Nat.le_refl _, rfl⟩
  rintro j z hj ⟨M1, P1, k1, rfl, hE1, hL1, hk1, hP1⟩ R hRR
  show lbX2_search_103 126 (nI s) (-1) 2 Q R60 (fun a b c => R (a, b, c)) (nI i) (nI j) M1
  have hk60 := hL1.2.2.1
  unfold lbX2_search_103
  refine ⟨fun q => nx (hR M1 P1 k1 hE1 hL1 hk1), fun q => ?_⟩
  have hj11 : j < 11 := by
    have := lt_of_nI (a := 11) (b := j) (by omega) (by omega) (fun z => q ?_)
    · exact this
    · have hh := le_of_nI (a := 11) (by omega) (by omega) z
      have : j = 11 := by omega
      subst this; decide
  refine ⟨nI_in' (by omega) (by omega), ?_⟩
  have hii := hL1.2.2.2.2 i (by omega)
  rw [pt_q_n (by omega)]
  refine f_trial (hE1.chE hC) hO (Or.inr (by omega)) (by omega) hii.1 hE1.2 ?_
  intro M2 fr2 hc2 hq2
  have hx2 : isS 134 M2 (rnC C n m (P1 i ++ [j]) c) := by rw [rnC_app]; exact hc2.s
  have hE2 : lkE M0 M2 := ⟨fun x hx => (fr2 x (Or.inl hx)).trans (hE1.1 x hx), hq2⟩
  have hL2 : lkO C n m c P1 k1 M2 := hL1.fr fun x hx => fr2 x (Or.inr (by omega))
  unfold wpX2_isReached
  refine ⟨fun z => absurd rfl z, fun _ => ?_⟩
  rw [show M2 (133 + 1) 3 = (rnC C n m (P1 i ++ [j]) c).1 from hx2.1]
  refine f_has (by omega) ?_
  unfold wjX2_isReached_33
  have hl1 : (P1 i).length < 2 := by rw [hP1]; exact hl
  cases hb : bt (rnC C n m (P1 i ++ [j]) c).1 s
  · rw [if_neg (by decide)]
    refine ⟨Or.inl rfl, fun _ => ?_, fun z => absurd rfl z⟩
    refine f_keepIfNew hE2 hL2 (by omega) (by omega) hl1 hx2 ?_
    intro M3 P3 k3 hE3 hL3 hk3 hP3 _
    exact nx (hRR _ hj11 ⟨M3, P3, k3, rfl, hE3, hL3, by omega, by rw [hP3 i (by omega)]; exact hP1⟩)
  · rw [if_pos rfl]
    refine ⟨Or.inr rfl, fun z => absurd z (by decide), fun _ => ?_⟩
    refine f_writeRow hE2 hL2 (by omega) (by omega) hl1 ?_
    intro M3 hE3 hro
    rw [hro.1]
    refine hQ M3 (P1 i ++ [j]) hE3 hro (by rw [List.length_append]; show 0 < _ + 1; omega) (by rw [List.length_append]; show _ + 1 ≤ 2; omega) (fun x hx => ?_) hb
    rcases List.mem_append.mp hx with z | z
    · exact hii.2.2.1 x z
    · rcases List.mem_singleton.mp z with rfl; omega
theorem f_search {M0 M : pt_M} {c : pC} {s : Nat} {Q : Int32 → pt_M → Prop} (hC : chE C M0) (hO : chO C n m) (hs : s < n) (hcs : isS 126 M0 c) (hE : lkE M0 M)
    (hN : ∀ M', lkE M0 M' → M' 141 1 = 0 → bt c.1 s = false → Q (-1) M')
    (h0 : ∀ M', lkE M0 M' → M' 141 1 = 0 → bt c.1 s = true → Q 0 M')
    (hQ : ∀ M' L, lkE M0 M' → rowO L M' → 0 < L.length → L.length ≤ 2 → (∀ e ∈ L, e ≤ 10) → bt c.1 s = false → bt (rnC C n m L c).1 s = true → Q (nI L.length) M') : wpX2_search 126 (nI s) (-1) 2 M Q := by
  obtain ⟨hn, hn1, h20⟩ := hO.n
  unfold wpX2_search
  refine eqv (eqv ⟨fun z => ?_, fun _ => ?_⟩)
  · have h0 : (-1 : Int32) < 0 := by decide
    rw [← z] at h0
    exact absurd h0 (nI_pos (by omega))
  have hE2 := (hE.st (k := 141) (j := 1) (x := 0) (by omega)).st (k := 141) (j := 2) (x := 0) (by omega)
  have hr2 : pt_st (pt_st M 141 1 0) 141 2 0 141 1 = 0 := by rw [st_ne (by omega), st_at]
  generalize pt_st (pt_st M 141 1 0) 141 2 0 = M2 at hE2 hr2
  have hs2 : isS 126 M2 c := hcs.same (hE2.1 _ (by omega)) (hE2.1 _ (by omega)) (hE2.1 _ (by omega)) (hE2.1 _ (by omega))
  rw [hs2.1]
  refine f_has (by omega) ?_
  cases hb : bt c.1 s
  · rw [if_neg (by decide)]
    refine ⟨fun _ => ?_, fun z => absurd rfl z⟩
    have hN' := fun M' a b => hN M' a b hb
    have hQ' := fun M' L a b d e f g => hQ M' L a b d e f hb g
    unfold wjX2_search_28
    refine ⟨nI_in' (c := 0) (N := 60) (by omega) (by omega), f_copyFrom (c := c) (by rw [show pt_q 0 = 147 from pt_q_n (n := 0) (by omega)]; omega) hs2 ?_⟩
    rw [show pt_q 0 = 147 from pt_q_n (n := 0) (by omega)]
    intro M3 f3 s3
    have hE3 : lkE M0 M3 := ⟨fun x hx => by rw [f3 _ (by omega)]; exact hE2.1 x hx, by
      obtain ⟨a, b, d⟩ := hE2.2
      exact ⟨by rw [f3 _ (by omega)]; exact a, b, fun i y e => by rw [f3 _ (by omega)]; exact d i y e⟩⟩
    refine ⟨nI_in' (c := 0) (N := 60) (by omega) (by omega), eqv ⟨nI_in' (c := 0) (N := 60) (by omega) (by omega), eqv (eqv ?_)⟩⟩
    have hz : Int32.toNatClampNeg 0 = 0 := rfl
    rw [hz]
    have hE4 := ((hE3.st (k := 144) (j := 0) (x := -1) (by omega)).st (k := 146) (j := 0) (x := 0) (by omega)).st (k := 141) (j := 8) (x := 1) (by omega)
    have hL4 : lkO C n m c (fun _ => []) 1 (pt_st (pt_st (pt_st M3 144 0 (-1)) 146 0 0) 141 8 1) := by
      refine ⟨by rw [st_at]; rfl, by omega, by omega, ?_, fun i hi => ?_⟩
      · rw [st_ne (by omega), pt_st_o (by omega), pt_st_o (by omega), f3 _ (by omega)]; exact hr2
      · have e : i = 0 := by omega
        subst e
        refine ⟨((s3.st (by omega)).st (by omega)).st (by omega), Nat.zero_le _, fun e he => absurd he List.not_mem_nil, ?_, Or.inl rfl⟩
        rw [pt_st_o (by omega), st_at]; exact nI_0.symm
    generalize pt_st (pt_st (pt_st M3 144 0 (-1)) 146 0 0) 141 8 1 = M4 at hE4 hL4
    refine lp_up (S := Int32 × pt_M) (lp := fun k z => lpX2_search_60 126 (nI s) (-1) 2 Q k z.1 z.2) (lb := fun R z => lbX2_search_60 126 (nI s) (-1) 2 Q (fun a b => R (a, b)) z.1 z.2) (fun _ _ => rfl) 60 (fun j z => ∃ M1 P1 k1, z = (nI j, M1) ∧ lkE M0 M1 ∧ lkO C n m c P1 k1 M1) ?_ (i := 0) (s := (0, M4)) (Nat.zero_le _) ⟨M4, _, 1, by rw [i0], hE4, hL4⟩
    rintro j z hj ⟨M1, P1, k1, rfl, hE1, hL1⟩ R hRR
    show lbX2_search_60 126 (nI s) (-1) 2 Q (fun a b => R (a, b)) (nI j) M1
    have hk60 := hL1.2.2.1
    have hrl := hL1.2.2.2.1
    unfold lbX2_search_60 wjX2_search_179
    rw [hL1.1]
    refine ⟨fun _ => hN' M1 hE1 hrl, fun q => ⟨fun _ => hN' M1 hE1 hrl, fun q2 => ?_⟩⟩
    have hjk := lt_of_nI (by omega) (by omega) q
    refine ⟨nI_in' (by omega) (by omega), ?_⟩
    rw [nI_clamp (by omega), (hL1.2.2.2.2 j hjk).2.2.2.1]
    refine ⟨fun q3 => eqv ?_, fun _ => hN' M1 hE1 hrl⟩
    have hl : (P1 j).length < 2 := (nI_ltI (b := 2) (by have := (hL1.2.2.2.2 j hjk).2.1; omega) (by omega)).mp q3
    have hL5 : lkO C n m c P1 k1 (pt_st M1 141 2 (M1 141 2 + 1)) := by
      obtain ⟨a1, a2, a3, a4, a5⟩ := hL1
      refine ⟨by rw [st_ne (by omega)]; exact a1, a2, a3, by rw [st_ne (by omega)]; exact a4, fun i hi => ?_⟩
      obtain ⟨b1, b2, b3, b4, b5⟩ := a5 i hi
      refine ⟨b1.st (by omega), b2, b3, by rw [pt_st_o (by omega)]; exact b4, ?_⟩
      rw [pt_st_o (by omega), pt_st_o (by omega)]; exact b5
    exact f_search1 hC hO hs (hE1.st (by omega)) hL5 hjk hl (fun M' P' k' x1 x2 _ => hRR _ (by omega) ⟨M', P', k', rfl, x1, x2⟩) hQ'
  · rw [if_pos rfl]
    exact ⟨fun z => absurd z (by decide), fun _ => h0 M2 hE2 hr2 hb⟩
theorem lkE.en {M0 M : pt_M} {c : pC} (h : lkE M0 M) (hE : enO C n m c M0) : enO C n m c M := by
  obtain ⟨hC, hO, hr, hc, hq, hq3⟩ := hE
  refine ⟨h.chE hC, hO, by rw [h.1 _ (by omega)]; exact hr, ?_, hq, h.2⟩
  obtain ⟨a, b, d, e, f⟩ := hc
  refine ⟨by rw [h.1 _ (by omega)]; exact a, fun s hs => by rw [h.1 _ (by omega)]; exact b s hs, fun s hs => by rw [h.1 _ (by omega)]; exact d s hs, fun s hs => by rw [h.1 _ (by omega)]; exact e s hs, ?_⟩
  obtain ⟨f1, f2, f3⟩ := f
  exact ⟨by rw [h.1 _ (by omega)]; exact f1, f2, fun i y e => by rw [h.1 _ (by omega)]; exact f3 i y e⟩
theorem f_rowTo {M : pt_M} {c : pC} {s : Nat} {Q : Int32 → pt_M → Prop} (hE : enO C n m c M) (hs : s < n)
    (hN : ∀ M', enO C n m c M' → M' 141 1 = 0 → bt c.1 s = false → Q (-1) M')
    (h0 : ∀ M', enO C n m c M' → M' 141 1 = 0 → bt c.1 s = true → Q 0 M')
    (hQ : ∀ M' L, enO C n m c M' → rowO L M' → 0 < L.length → L.length ≤ 2 → (∀ e ∈ L, e ≤ 10) → bt c.1 s = false → bt (rnC C n m L c).1 s = true → Q (nI L.length) M') : wpX7_rowTo (nI s) 2 M Q := by
  obtain ⟨hn, hn1, h20⟩ := hE.2.1.n
  unfold wpX7_rowTo
  refine f_checkRunning hE.2.2.1 (f_checkState hE.1 hn h20 hs ?_)
  unfold wpX7_checkMost
  refine f_within (by decide) (by decide) ⟨fun _ => ?_, fun q => absurd q (by decide)⟩
  exact f_search (M0 := M) hE.1 hE.2.1 hs hE.2.2.2.1.s ⟨fun _ _ => rfl, hE.2.2.2.2.2⟩ (fun M' a => hN M' (a.en hE)) (fun M' a => h0 M' (a.en hE)) (fun M' L a => hQ M' L (a.en hE))
end
