/-! ===== a transition is told ===== -/
theorem root_be {M : pt_M} {n m : Nat} (hO : chO M n m) : ∀ (i : Nat), i < n → 0 < i → be M 0 i := by
  obtain ⟨hn, h1, h20⟩ := hO.n
  intro i
  induction i using Nat.strongRecOn with
  | ind i ih =>
    intro hi h0
    rw [be_iff hO (by omega) (by omega)]
    refine ⟨hi, h0, ?_⟩
    by_cases e : cP M i = 0
    · exact Or.inl e
    · have := (hO.pa hi h0).1
      exact Or.inr (ih _ this (by omega) (by omega))
theorem f_scopeOf {M0 M : pt_M} {n m f t : Nat} {Q : Int32 → pt_M → Prop} (hO : chO M0 n m) (hs : ∀ s, s < n → M (5 + 3 * s) = M0 (5 + 3 * s)) (hf : 0 < f ∧ f < n) (ht : 0 < t ∧ t < n) (h : ∀ sc, sc < n → cK M0 sc = 0 → be M0 sc f → be M0 sc t → Q (nI sc) M) : wpX1_scopeOf (nI f) (nI t) M Q := by
  obtain ⟨hn, h1, h20⟩ := hO.n
  unfold wpX1_scopeOf
  refine f_setOf (f_setOf (eqv (eqv ?_)))
  obtain ⟨f', rfl⟩ : ∃ f', f = f' + 1 := ⟨f - 1, by omega⟩
  rw [nI_pred]
  refine lp_down (S := Int32 × Int32 × pt_M) (lp := fun k z => lpX1_scopeOf_15 (nI (f' + 1)) (nI t) Q k z.1 z.2.1 z.2.2) (lb := fun R z => lbX1_scopeOf_15 (nI (f' + 1)) (nI t) Q (fun a b c => R (a, b, c)) z.1 z.2.1 z.2.2) (fun _ _ => rfl) (fun i z => z = (s1 (f' + 1) ||| s1 t, nI i, M) ∧ i < n) ?_ (i := f') (s := (s1 (f' + 1) ||| s1 t, nI f', M)) ⟨rfl, by omega⟩
  rintro i z ⟨rfl, hi⟩ R hR
  show lbX1_scopeOf_15 (nI (f' + 1)) (nI t) Q (fun a b c => R (a, b, c)) _ (nI i) M
  unfold lbX1_scopeOf_15
  refine ⟨fun q => ?_, fun q => ?_⟩
  · rw [i0]
    exact h 0 (by omega) hO.2.2.1.1 (root_be hO _ hf.2 hf.1) (root_be hO _ ht.2 ht.1)
  · obtain ⟨i', rfl⟩ : ∃ i', i = i' + 1 := ⟨i - 1, by
      have : i ≠ 0 := fun e => q (by rw [e]; exact (by decide : nI 0 ≤ 0))
      omega⟩
    have hin := nI_in' (c := i' + 1) (N := 20) (by omega) (by omega)
    unfold wjX1_scopeOf_52
    rw [pt_s_n (by omega), hs _ hi]
    refine ⟨hin, fun _ => nxd (hR i' _ rfl ⟨rfl, by omega⟩), fun q2 => ⟨hin, fun _ => nxd (hR i' _ rfl ⟨rfl, by omega⟩), fun q3 => ?_⟩⟩
    have hb : ∀ v, v < 32 → bt (s1 (f' + 1) ||| s1 t) v = true → be M0 (i' + 1) v := fun v hv hb => by
      have : bt (M0 (5 + 3 * (i' + 1)) 7 &&& (s1 (f' + 1) ||| s1 t)) v = true := by rw [q3]; exact hb
      rw [b_and, Bool.and_eq_true] at this
      exact this.1
    refine h (i' + 1) hi ((hO.k hi (k := 0) (by omega)).mp (by rw [q2, nI_0])) (hb _ (by omega) ?_) (hb _ (by omega) ?_)
    · rw [b_or, b_s1 (by omega) (by omega), decide_eq_true rfl, Bool.true_or]
    · rw [b_or, b_s1 (k := t) (by omega) (by omega), decide_eq_true rfl, Bool.or_true]
theorem f_causeOf {M : pt_M} {g w : Nat} {Q : Int32 → pt_M → Prop} (hw : 1 ≤ w ∧ w ≤ 3) (h : ∀ r, r < 12 → Q (nI r) M) : wpX1_causeOf (nI g) (nI w) M Q := by
  unfold wpX1_causeOf wjX1_causeOf_18
  exact ⟨fun _ => ⟨fun _ => h 11 (by omega), fun _ => h 10 (by omega)⟩, fun _ => h w (by omega)⟩
theorem f_putTransition {M : pt_M} {n m f g w : Nat} {to : Int32} {Q : Int32 → pt_M → Prop} (hR : rsO M n m) (hm30 : m < 30) (hf : f < n) (hk : cK M f ≤ 1) (hw : 1 ≤ w ∧ w ≤ 3) (hto : to = -1 ∨ (0 < f ∧ ∃ t, 0 < t ∧ t < n ∧ to = nI t)) (h : ∀ M', rsO M' n (m + 1) → (∀ s, s < n → M' (5 + 3 * s) 2 = M (5 + 3 * s) 2) → Q (nI m) M') : wpX1_putTransition (nI f) (nI g) (nI w) to M Q := by
  obtain ⟨hO, hfs, hft, hr, hq⟩ := hR
  obtain ⟨hn, hn1, h20⟩ := hO.n
  obtain ⟨hm, h30⟩ := hO.m
  unfold wpX1_putTransition
  rw [hm]
  refine eqv ⟨nI_in' (by omega) (by omega), ?_⟩
  rw [pt_t_n (by omega)]
  refine eqv (eqv (eqv (eqv ?_)))
  have g1 : pt_st (pt_st (pt_st (pt_st M (65 + 2 * m) 1 (nI f)) (65 + 2 * m) 2 (nI g)) (65 + 2 * m) 3 (nI w)) (65 + 2 * m) 4 to (65 + 2 * m) 1 = nI f := by rw [pt_rd, if_neg (by omega), pt_rd, if_neg (by omega), pt_rd, if_neg (by omega), pt_rd, if_pos ⟨rfl, rfl⟩]
  have g4 : pt_st (pt_st (pt_st (pt_st M (65 + 2 * m) 1 (nI f)) (65 + 2 * m) 2 (nI g)) (65 + 2 * m) 3 (nI w)) (65 + 2 * m) 4 to (65 + 2 * m) 4 = to := by rw [pt_rd, if_pos ⟨rfl, rfl⟩]
  have go : ∀ x j, ¬ (x = 65 + 2 * m ∧ (j = 1 ∨ j = 2 ∨ j = 3 ∨ j = 4)) → pt_st (pt_st (pt_st (pt_st M (65 + 2 * m) 1 (nI f)) (65 + 2 * m) 2 (nI g)) (65 + 2 * m) 3 (nI w)) (65 + 2 * m) 4 to x j = M x j := fun x j hx => by rw [pt_rd, if_neg (by omega), pt_rd, if_neg (by omega), pt_rd, if_neg (by omega), pt_rd, if_neg (by omega)]
  generalize pt_st (pt_st (pt_st (pt_st M (65 + 2 * m) 1 (nI f)) (65 + 2 * m) 2 (nI g)) (65 + 2 * m) 3 (nI w)) (65 + 2 * m) 4 to = M1 at g1 g4 go
  have fin : ∀ scv : Int32, (to ≠ -1 → ∃ sc, scv = nI sc ∧ sc < n ∧ cK M sc = 0 ∧ be M sc f ∧ ∃ t, 0 < t ∧ t < n ∧ to = nI t ∧ be M sc t) → wjX1_putTransition_59 (nI f) (nI g) (nI w) to Q (nI m) (65 + 2 * m) scv M1 := by
    intro scv hsc
    unfold wjX1_putTransition_59
    refine eqv ⟨nI_in' (by omega) (by omega), f_setOf (eqv (f_causeOf hw fun r hr' => ?_))⟩
    have hin := nI_in' (c := r) (N := 12) hr' (by omega)
    refine ⟨hin, f_setOf ⟨hin, eqv (eqv ?_)⟩⟩
    rw [pt_s_n (by omega), nI_clamp (by omega)]
    have e14 : pt_st (pt_st (pt_st M1 (65 + 2 * m) 5 scv) (5 + 3 * f) 8 (pt_st M1 (65 + 2 * m) 5 scv (5 + 3 * f) 8 ||| s1 m)) 4 r (pt_st (pt_st M1 (65 + 2 * m) 5 scv) (5 + 3 * f) 8 (pt_st M1 (65 + 2 * m) 5 scv (5 + 3 * f) 8 ||| s1 m) 4 r ||| s1 m) 1 4 = nI m := by
      rw [pt_rd, if_neg (by omega), pt_rd, if_neg (by omega), pt_rd, if_neg (by omega), go _ _ (by omega)]; exact hm
    rw [e14, nI_s1]
    generalize pt_st M1 (65 + 2 * m) 5 scv (5 + 3 * f) 8 ||| s1 m = va
    generalize pt_st (pt_st M1 (65 + 2 * m) 5 scv) (5 + 3 * f) 8 va 4 r ||| s1 m = vb
    have f1 : pt_st (pt_st (pt_st (pt_st M1 (65 + 2 * m) 5 scv) (5 + 3 * f) 8 va) 4 r vb) 1 4 (nI (m + 1)) (65 + 2 * m) 1 = nI f := by rw [pt_rd, if_neg (by omega), pt_rd, if_neg (by omega), pt_rd, if_neg (by omega), pt_rd, if_neg (by omega)]; exact g1
    have f4 : pt_st (pt_st (pt_st (pt_st M1 (65 + 2 * m) 5 scv) (5 + 3 * f) 8 va) 4 r vb) 1 4 (nI (m + 1)) (65 + 2 * m) 4 = to := by rw [pt_rd, if_neg (by omega), pt_rd, if_neg (by omega), pt_rd, if_neg (by omega), pt_rd, if_neg (by omega)]; exact g4
    have f5 : pt_st (pt_st (pt_st (pt_st M1 (65 + 2 * m) 5 scv) (5 + 3 * f) 8 va) 4 r vb) 1 4 (nI (m + 1)) (65 + 2 * m) 5 = scv := by rw [pt_rd, if_neg (by omega), pt_rd, if_neg (by omega), pt_rd, if_neg (by omega), pt_rd, if_pos ⟨rfl, rfl⟩]
    have f14 : pt_st (pt_st (pt_st (pt_st M1 (65 + 2 * m) 5 scv) (5 + 3 * f) 8 va) 4 r vb) 1 4 (nI (m + 1)) 1 4 = nI (m + 1) := by rw [pt_rd, if_pos ⟨rfl, rfl⟩]
    have fo : ∀ x j, ¬ (x = 65 + 2 * m ∧ (j = 1 ∨ j = 2 ∨ j = 3 ∨ j = 4 ∨ j = 5)) → ¬ (x = 5 + 3 * f ∧ j = 8) → x ≠ 4 → ¬ (x = 1 ∧ j = 4) → pt_st (pt_st (pt_st (pt_st M1 (65 + 2 * m) 5 scv) (5 + 3 * f) 8 va) 4 r vb) 1 4 (nI (m + 1)) x j = M x j := fun x j x1 x2 x3 x4 => by rw [pt_rd, if_neg (by omega), pt_rd, if_neg (by omega), pt_rd, if_neg (by omega), pt_rd, if_neg (by omega)]; exact go x j (by omega)
    generalize pt_st (pt_st (pt_st (pt_st M1 (65 + 2 * m) 5 scv) (5 + 3 * f) 8 va) 4 r vb) 1 4 (nI (m + 1)) = F at f1 f4 f5 f14 fo
    have hs' : ∀ s j, s < n → j = 2 ∨ j = 3 ∨ j = 5 ∨ j = 6 ∨ j = 7 → F (5 + 3 * s) j = M (5 + 3 * s) j := fun s j hs hj => fo _ _ (by omega) (by omega) (by omega) (by omega)
    have hac : ∀ x, (5 < x ∧ x < 65 ∧ x % 3 ≠ 2) ∨ (65 < x ∧ x % 2 = 0) → acO M x → acO F x := fun x hx hA => hA.congr (fo _ _ (by omega) (by omega) (by omega) (by omega)) (fo _ _ (by omega) (by omega) (by omega) (by omega))
    refine h F ⟨chO_congr hO hs' (fo _ _ (by omega) (by omega) (by omega) (by omega)) (fo _ _ (by omega) (by omega) (by omega) (by omega)) (fo _ _ (by omega) (by omega) (by omega) (by omega)) (fun s hs => ⟨hac _ (Or.inl (by omega)) (hO.s hs).2.2.2.2.2.1, hac _ (Or.inl (by omega)) (hO.s hs).2.2.2.2.2.2⟩) ⟨f14, by omega⟩ (fun t ht => ?_), fun s a b => ?_, fun t a b => ?_, by rw [fo _ _ (by omega) (by omega) (by omega) (by omega)]; exact hr, ?_⟩ (fun s hs => hs' s 2 hs (by omega))
    · rcases Nat.lt_or_eq_of_le (Nat.le_of_lt_succ ht) with ht | rfl
      · have hT := hO.t ht
        exact trO_congr hO hT hs' (fo _ _ (by omega) (by omega) (by omega) (by omega)) (fo _ _ (by omega) (by omega) (by omega) (by omega)) (fo _ _ (by omega) (by omega) (by omega) (by omega)) (by rw [fo _ _ (by omega) (by omega) (by omega) (by omega), fo _ _ (by omega) (by omega) (by omega) (by omega)]; exact hT.2.2.1) (hac _ (Or.inr (by omega)) hT.2.2.2)
      · obtain ⟨r6, r0⟩ := hft t (Nat.le_refl _) hm30
        have ef : tF F t = f := by unfold tF; rw [f1, nI_clamp (by omega)]
        refine ⟨⟨by rw [ef]; exact f1, by rw [ef]; exact hf, by rw [ef, cK_eq (hs' f 2 hf (by omega))]; exact hk⟩, fun z => ?_, fun z => ?_, ac_0 ?_⟩
        · rw [f4] at z
          obtain ⟨sc, e1, c1, c2, c3, t', t0, t1, e2, c4⟩ := hsc z
          have eT : tT F t = t' := by unfold tT; rw [f4, e2, nI_clamp (by omega)]
          have eS : tS F t = sc := by unfold tS; rw [f5, e1, nI_clamp (by omega)]
          rw [f4, f5, eT, eS, ef, hs' sc 7 c1 (by omega), cK_eq (hs' sc 2 c1 (by omega))]
          exact ⟨⟨e2, t0, t1⟩, ⟨e1, c1, c2⟩, c3, c4⟩
        · rw [fo _ _ (by omega) (by omega) (by omega) (by omega), r6] at z
          rcases z with z | z | z <;> exact absurd z (by decide)
        · rw [fo _ _ (by omega) (by omega) (by omega) (by omega)]; exact r0
    · obtain ⟨e1, e2, e3, e4, e5⟩ := hfs s a b
      refine ⟨?_, ?_, ?_, ?_, ?_⟩ <;> rw [fo _ _ (by omega) (by omega) (by omega) (by omega)] <;> assumption
    · obtain ⟨e1, e2⟩ := hft t (by omega) b
      refine ⟨?_, ?_⟩ <;> rw [fo _ _ (by omega) (by omega) (by omega) (by omega)] <;> assumption
    · obtain ⟨e1, e2, e3⟩ := hq
      exact ⟨by rw [fo _ _ (by omega) (by omega) (by omega) (by omega)]; exact e1, e2, fun i x e => by rw [fo _ _ (by omega) (by omega) (by omega) (by omega)]; exact e3 i x e⟩
  refine ⟨fun q => ?_, fun q => fin _ (fun z => absurd q z)⟩
  rcases hto with z | ⟨f0, t, t0, t1, rfl⟩
  · exact absurd z q
  · exact f_scopeOf hO (fun s hs => funext fun j => go _ _ (by omega)) ⟨f0, hf⟩ ⟨t0, t1⟩ (fun sc c1 c2 c3 c4 => fin _ (fun _ => ⟨sc, rfl, c1, c2, c3, t, t0, t1, rfl, c4⟩))
theorem f_addTransition {M : pt_M} {n m f g w : Nat} {to : Int32} {Q : Int32 → pt_M → Prop} (hR : rsO M n m) (hm30 : m < 30) (hf : f < n) (hk : cK M f ≤ 1) (hg : g < 4) (hw : 1 ≤ w ∧ w ≤ 3) (hto : to = -1 ∨ (0 < f ∧ ∃ t, 0 < t ∧ t < n ∧ to = nI t)) (h : ∀ M', rsO M' n (m + 1) → (∀ s, s < n → M' (5 + 3 * s) 2 = M (5 + 3 * s) 2) → Q (nI m) M') : wpX7_addTransition (nI f) (nI g) (nI w) to M Q := by
  obtain ⟨hn, hn1, h20⟩ := hR.1.n
  obtain ⟨hm, h30⟩ := hR.1.m
  have key : wpX1_putTransition (nI f) (nI g) (nI w) to M Q := f_putTransition hR hm30 hf hk hw hto h
  have t44 : wjX7_addTransition_44 (nI f) (nI g) (nI w) to Q M := by
    unfold wjX7_addTransition_44 wjX7_addTransition_98
    refine ⟨nI_in' (by omega) (by omega), f_isHolder ?_⟩
    rw [pt_s_n (by omega)]
    have hh : M (5 + 3 * f) 2 = 0 ∨ M (5 + 3 * f) 2 = 1 := by
      rcases Nat.lt_or_ge (cK M f) 1 with z | z
      · exact Or.inl (by rw [(hR.1.k hf (k := 0) (by omega)).mpr (by omega), nI_0])
      · exact Or.inr ((hR.1.k hf (k := 1) (by omega)).mpr (by omega))
    rw [if_pos hh]
    refine ⟨fun z => absurd z (by decide), fun _ => f_isTrigger hg hw ⟨fun _ => ?_, fun z => absurd z (by decide)⟩⟩
    refine ⟨fun z => ?_, fun _ => ⟨fun _ => key, fun z => ⟨fun _ => key, fun z2 => ?_⟩⟩⟩
    · rcases hto with y | ⟨f0, t, t0, t1, y⟩
      · rw [y] at z; exact absurd z (by decide)
      · rw [y] at z; exact absurd z (nI_ne0 t0 (by omega))
    · rcases hto with y | ⟨f0, t, t0, t1, y⟩
      · exact absurd y z2
      · exact absurd z (nI_ne0 f0 (by omega))
  unfold wpX7_addTransition
  refine ⟨fun z => absurd hR.2.2.2.1 z, fun _ => ⟨fun _ => f_checkState hR.ch hn h20 hf ⟨fun _ => t44, fun z => ?_⟩, fun z => ?_⟩⟩
  · rcases hto with y | ⟨f0, t, t0, t1, y⟩
    · exact absurd y z
    · rw [y]
      rw [y] at t44
      exact f_checkState hR.ch hn h20 t1 t44
  · rw [hm] at z
    exact absurd (nI_lt (b := 30) hm30 (by omega)) z
theorem f_addState {M : pt_M} {n p k : Nat} {Q : Int32 → pt_M → Prop} (hR : rsO M n 0) (h20 : n < 20) (hp : p < n) (hk : k ≤ 4) (hkp : cK M p ≤ 1) (hk2 : k = 2 → cK M p = 0) (h : ∀ M', rsO M' (n + 1) 0 → (∀ s, s < n → M' (5 + 3 * s) 2 = M (5 + 3 * s) 2) → M' (5 + 3 * n) 2 = nI k → Q (nI n) M') : wpX7_addState (nI p) (nI k) M Q := by
  obtain ⟨hn, hn1, _⟩ := hR.1.n
  have hh : M (5 + 3 * p) 2 = 0 ∨ M (5 + 3 * p) 2 = 1 := by
    rcases Nat.lt_or_ge (cK M p) 1 with z | z
    · exact Or.inl (by rw [(hR.1.k hp (k := 0) (by omega)).mpr (by omega), nI_0])
    · exact Or.inr ((hR.1.k hp (k := 1) (by omega)).mpr (by omega))
  have key : wpX1_putState (nI p) (nI k) M Q := f_putState hn h20 hp hk hh fun M' hu => h M' (put_rs hR h20 hp hk hkp hk2 hu) (fun s hs => hu.2.2.2.2.2.2.2 _ _ (by omega) (by omega) (fun _ _ => by omega) (by omega)) hu.2.1.1
  unfold wpX7_addState wjX7_addState_93
  refine ⟨fun z => absurd hR.2.2.2.1 z, fun _ => ⟨fun _ => f_checkState hR.ch hn (by omega) hp ?_, fun z => ?_⟩⟩
  · refine f_within (nI_le (a := 0) (by omega) (by omega)) (nI_le (b := 4) (by omega) (by omega)) ⟨fun z => absurd z (by decide), fun _ => ⟨nI_in' (by omega) (by omega), f_isHolder ?_⟩⟩
    rw [pt_s_n (by omega), if_pos hh]
    refine ⟨fun _ => ⟨fun _ => key, fun z => ⟨nI_in' (by omega) (by omega), fun _ => key, fun z2 => ?_⟩⟩, fun z => absurd z (by decide)⟩
    have e1 := hk2 ((nI_eq (b := 2) (by omega) (by omega)).mp z)
    have e2 := (hR.1.k hp (k := 1) (by omega)).mp z2
    omega
  · rw [hn] at z
    exact absurd (nI_lt (b := 20) h20 (by omega)) z
