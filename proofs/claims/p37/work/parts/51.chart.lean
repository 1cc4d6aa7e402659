/-! ===== the chart's methods, as functions of the chart's memory C ===== -/
def chE (C M : pt_M) : Prop := ∀ k, 0 < k ∧ k < 125 → M k = C k
theorem chE.st {C M : pt_M} {k j : Nat} {x : Int32} (h : chE C M) (hk : 125 ≤ k) : chE C (pt_st M k j x) := fun a ha => by rw [pt_st_o (by omega)]; exact h a ha
theorem chE.cp {C M : pt_M} {k i n : Nat} (h : chE C M) (hk : 125 ≤ k) : chE C (pt_cp M k i n) := fun a ha => by rw [pt_cp_o (by omega)]; exact h a ha
theorem br0 {b : Bool} {A B : Prop} (h0 : b = false → A) (h1 : b = true → B) : ((if b = true then (1 : Int32) else 0) = 0 → A) ∧ (¬ (if b = true then (1 : Int32) else 0) = 0 → B) := by
  cases b
  · exact ⟨fun _ => h0 rfl, fun q => absurd rfl q⟩
  · exact ⟨fun q => absurd q (by decide), fun _ => h1 rfl⟩
theorem br1 {b : Bool} {A B : Prop} (h0 : b = false → A) (h1 : b = true → B) : (¬ (if b = true then (1 : Int32) else 0) = 0 → B) ∧ ((if b = true then (1 : Int32) else 0) = 0 → A) := ⟨(br0 h0 h1).2, (br0 h0 h1).1⟩
theorem brp0 {p : Prop} [Decidable p] {A B : Prop} (h0 : ¬ p → A) (h1 : p → B) : ((if p then (1 : Int32) else 0) = 0 → A) ∧ (¬ (if p then (1 : Int32) else 0) = 0 → B) := by
  by_cases hp : p
  · rw [if_pos hp]; exact ⟨fun q => absurd q (by decide), fun _ => h1 hp⟩
  · rw [if_neg hp]; exact ⟨fun _ => h0 hp, fun q => absurd rfl q⟩
theorem brp1 {p : Prop} [Decidable p] {A B : Prop} (h0 : ¬ p → A) (h1 : p → B) : (¬ (if p then (1 : Int32) else 0) = 0 → B) ∧ ((if p then (1 : Int32) else 0) = 0 → A) := ⟨(brp0 h0 h1).2, (brp0 h0 h1).1⟩
theorem nI_m1 (n : Nat) : nI (n + 1) + (-1) = nI n := by
  rw [← nI_pred n, Int32.sub_eq_add_neg]
theorem nI_s1 (n : Nat) : nI n + 1 = nI (n + 1) := nI_1 n
theorem i0 : (0 : Int32) = nI 0 := nI_0.symm
/-- a round's end: the counter one further -/
theorem nx {A : Int32 → Prop} {i : Nat} (h : A (nI (i + 1))) : ∀ y : Int32, y = nI i + 1 → A y := fun y e => by rw [e, nI_1]; exact h
theorem nxd {A : Int32 → Prop} {i : Nat} (h : A (nI i)) : ∀ y : Int32, y = nI (i + 1) + (-1) → A y := fun y e => by rw [e, nI_m1]; exact h
theorem eqv {α : Type} {A : α → Prop} {x : α} (h : A x) : ∀ y : α, y = x → A y := fun y e => by rw [e]; exact h
theorem le_of_nI {a b : Nat} (ha : a < 2 ^ 31) (hb : b < 2 ^ 31) (h : nI a ≤ nI b) : a ≤ b := (nI_leI ha hb).mp h
theorem lt_of_nI {a b : Nat} (ha : a < 2 ^ 31) (hb : b < 2 ^ 31) (h : ¬ nI a ≤ nI b) : b < a := Nat.not_le.mp fun q => h ((nI_leI ha hb).mpr q)
/-- FILLED: each STATE's filledWith, upward -/
def flN (C : pt_M) : Nat → Int32 → Int32
  | 0, x => x
  | i + 1, x => if bt (flN C i x) i = true then flN C i x ||| C (5 + 3 * i) 6 else flN C i x
theorem f_filled {C M : pt_M} {n : Nat} {x : Int32} {Q : Int32 → pt_M → Prop} (hC : chE C M) (hn : C 1 3 = nI n) (h20 : n ≤ 20) (h : Q (flN C n x) M) : wpX1_filled x M Q := by
  refine lp_up (S := Int32 × Int32 × pt_M) (lp := fun k s => lpX1_filled_4 x Q k s.1 s.2.1 s.2.2) (lb := fun R s => lbX1_filled_4 x Q (fun a b c => R (a, b, c)) s.1 s.2.1 s.2.2) (fun _ _ => rfl) n (fun i s => s = (flN C i x, nI i, M)) ?_ (i := 0) (s := (x, 0, M)) (Nat.zero_le _) (by rw [i0]; rfl)
  rintro i s hi rfl R hR
  show lbX1_filled_4 x Q (fun a b c => R (a, b, c)) (flN C i x) (nI i) M
  unfold lbX1_filled_4 wjX1_filled_32
  rw [hC 1 (by omega), hn]
  refine ⟨fun q => ?_, fun q => ?_⟩
  · have := le_of_nI (by omega) (by omega) q
    have e : i = n := by omega
    subst e; exact h
  · have hlt := lt_of_nI (by omega) (by omega) q
    refine f_has (by omega) (br0 (fun hb => nx (hR _ hlt ?_)) (fun hb => ⟨nI_in' (by omega) (by omega), eqv (nx (hR _ hlt ?_))⟩))
    · rw [flN, if_neg (by rw [hb]; decide)]
    · rw [flN, if_pos hb, pt_s_n (by omega), hC (5 + 3 * i) (by omega)]
/-- what lies aside of targets -/
def paF (C : pt_M) (n : Nat) (tg : Int32) (s : Nat) : Int32 := mk (fun b => bt (C (5 + 3 * s) 5) b && !bt tg b && !(decide (s < b ∧ b < n) && decide (C (5 + 3 * b) 7 &&& tg ≠ 0)))
theorem f_partsAside {C M : pt_M} {n s : Nat} {tg : Int32} {Q : Int32 → pt_M → Prop} (hC : chE C M) (hn : C 1 3 = nI n) (h20 : n ≤ 20) (hs : s < n) (h : Q (paF C n tg s) M) : wpX1_partsAside (nI s) tg M Q := by
  unfold wpX1_partsAside
  refine ⟨nI_in' (by omega) (by omega), eqv (nx ?_)⟩
  rw [pt_s_n (by omega), hC (5 + 3 * s) (by omega)]
  refine lp_up (S := Int32 × Int32 × pt_M) (lp := fun k z => lpX1_partsAside_19 (nI s) tg Q k z.1 z.2.1 z.2.2) (lb := fun R z => lbX1_partsAside_19 (nI s) tg Q (fun a b c => R (a, b, c)) z.1 z.2.1 z.2.2) (fun _ _ => rfl) n (fun i z => z = (mk (fun b => bt (C (5 + 3 * s) 5) b && !bt tg b && !(decide (s < b ∧ b < i) && decide (C (5 + 3 * b) 7 &&& tg ≠ 0))), nI i, M) ∧ s < i) ?_ (i := s + 1) (s := (_, nI (s + 1), M)) (by omega) ⟨?_, Nat.lt_succ_self s⟩
  · rintro i z hi ⟨rfl, hsi⟩ R hR
    show lbX1_partsAside_19 _ _ _ (fun a b c => R (a, b, c)) _ (nI i) M
    unfold lbX1_partsAside_19 wjX1_partsAside_53
    rw [hC 1 (by omega), hn]
    refine ⟨fun q => ?_, fun q => ?_⟩
    · have := le_of_nI (by omega) (by omega) q
      have e : i = n := by omega
      subst e; exact h
    · have hlt := lt_of_nI (by omega) (by omega) q
      rw [pt_s_n (by omega), hC (5 + 3 * i) (by omega)]
      refine ⟨nI_in' (by omega) (by omega), fun q0 => nx (hR _ hlt ⟨?_, by omega⟩), fun q0 => f_setOf (eqv (nx (hR _ hlt ⟨?_, by omega⟩)))⟩
      · congr 1
        refine mk_congr fun b hb => ?_
        congr 2
        by_cases e : b = i
        · subst e
          rw [decide_eq_false (show ¬ (C (5 + 3 * b) 7 &&& tg ≠ 0) from fun z => z q0), Bool.and_false, Bool.and_false]
        · rw [show (decide (s < b ∧ b < i)) = decide (s < b ∧ b < i + 1) from by congr 1; exact propext ⟨fun z => ⟨z.1, by omega⟩, fun z => ⟨z.1, by omega⟩⟩]
      · congr 1
        refine mk_ext fun b hb => ?_
        rw [b_and, b_not _ hb, b_mk hb, b_s1 (by omega) hb]
        by_cases e : b = i
        · subst e
          rw [decide_eq_true (show C (5 + 3 * b) 7 &&& tg ≠ 0 from q0), decide_eq_true (show s < b ∧ b < b + 1 by omega), decide_eq_true rfl]
          simp
        · rw [show (decide (s < b ∧ b < i)) = decide (s < b ∧ b < i + 1) from by congr 1; exact propext ⟨fun z => ⟨z.1, by omega⟩, fun z => ⟨z.1, by omega⟩⟩, decide_eq_false e]
          simp
  · congr 1
    refine mk_ext fun b hb => ?_
    rw [b_and, b_not _ hb, decide_eq_false (show ¬ (s < b ∧ b < s + 1) by omega)]
    simp
/-- on the way to targets, from a SCOPE -/
def owB (C : pt_M) (sc : Nat) (tg : Int32) (i : Nat) : Bool := decide (sc < i) && bt (C (5 + 3 * sc) 7) i && decide (C (5 + 3 * i) 7 &&& tg ≠ 0)
def ptN (C : pt_M) (sc : Nat) (tg : Int32) : Nat → Int32
  | 0 => 0
  | i + 1 => if owB C sc tg i = true then ptN C sc tg i ||| s1 i else ptN C sc tg i
def tfN (C : pt_M) (n sc : Nat) (tg : Int32) : Nat → Int32
  | 0 => tg
  | i + 1 => if owB C sc tg i = true ∧ C (5 + 3 * i) 2 = 1 then tfN C n sc tg i ||| paF C n tg i else tfN C n sc tg i
theorem ptN_lo {C : pt_M} {sc : Nat} {tg : Int32} : ∀ {i}, i ≤ sc + 1 → ptN C sc tg i = 0
  | 0, _ => rfl
  | i + 1, h => by
    rw [ptN, if_neg, ptN_lo (by omega)]
    unfold owB
    rw [decide_eq_false (show ¬ sc < i by omega)]
    simp
theorem tfN_lo {C : pt_M} {n sc : Nat} {tg : Int32} : ∀ {i}, i ≤ sc + 1 → tfN C n sc tg i = tg
  | 0, _ => rfl
  | i + 1, h => by
    rw [tfN, if_neg, tfN_lo (by omega)]
    unfold owB
    rw [decide_eq_false (show ¬ sc < i by omega)]
    simp
def enF (C : pt_M) (n sc : Nat) (tg : Int32) : Int32 := ptN C sc tg n ||| flN C n (tfN C n sc tg n)
theorem f_enteredInto {C M : pt_M} {n sc : Nat} {tg : Int32} {Q : Int32 → pt_M → Prop} (hC : chE C M) (hn : C 1 3 = nI n) (h20 : n ≤ 20) (hs : sc < n) (h : Q (enF C n sc tg) M) : wpX1_enteredInto tg (nI sc) M Q := by
  unfold wpX1_enteredInto
  refine nx ?_
  refine lp_up (S := Int32 × Int32 × Int32 × pt_M) (lp := fun k z => lpX1_enteredInto_10 tg (nI sc) Q k z.1 z.2.1 z.2.2.1 z.2.2.2) (lb := fun R z => lbX1_enteredInto_10 tg (nI sc) Q (fun a b c d => R (a, b, c, d)) z.1 z.2.1 z.2.2.1 z.2.2.2) (fun _ _ => rfl) n (fun i z => z = (ptN C sc tg i, tfN C n sc tg i, nI i, M) ∧ sc < i) ?_ (i := sc + 1) (s := (0, tg, nI (sc + 1), M)) (by omega) ⟨by rw [ptN_lo (Nat.le_refl _), tfN_lo (Nat.le_refl _)], Nat.lt_succ_self sc⟩
  rintro i z hi ⟨rfl, hsi⟩ R hR
  show lbX1_enteredInto_10 _ _ _ (fun a b c d => R (a, b, c, d)) _ _ (nI i) M
  unfold lbX1_enteredInto_10 wjX1_enteredInto_85
  rw [hC 1 (by omega), hn]
  refine ⟨fun q => ?_, fun q => ?_⟩
  · have := le_of_nI (by omega) (by omega) q
    have e : i = n := by omega
    subst e
    exact f_filled hC hn h20 h
  · have hlt := lt_of_nI (by omega) (by omega) q
    rw [pt_s_n (by omega), pt_s_n (by omega), hC (5 + 3 * sc) (by omega)]
    have eI : M (5 + 3 * i) = C (5 + 3 * i) := hC _ (by omega)
    refine ⟨nI_in' (by omega) (by omega), f_has (by omega) (br0 (fun hb => nx (hR _ hlt ⟨?_, by omega⟩)) (fun hb => ⟨nI_in' (by omega) (by omega), fun q0 => nx (hR _ hlt ⟨?_, by omega⟩), fun q0 => f_setOf (eqv ⟨nI_in' (by omega) (by omega), fun q1 => nx (hR _ hlt ⟨?_, by omega⟩), fun q1 => f_partsAside hC hn h20 hlt (eqv (nx (hR _ hlt ⟨?_, by omega⟩)))⟩)⟩))⟩
    · have e : owB C sc tg i = false := by unfold owB; rw [hb]; simp
      rw [ptN, tfN, if_neg (by rw [e]; decide), if_neg (by rw [e]; simp)]
    · rw [eI] at q0
      have e : owB C sc tg i = false := by unfold owB; rw [q0]; simp
      rw [ptN, tfN, if_neg (by rw [e]; decide), if_neg (by rw [e]; simp)]
    · rw [eI] at q0 q1
      have e : owB C sc tg i = true := by unfold owB; rw [hb, decide_eq_true hsi, decide_eq_true (show _ ≠ _ from q0)]; rfl
      rw [ptN, tfN, if_pos e, if_neg (fun z => q1 z.2)]
    · rw [eI] at q0 q1
      have e : owB C sc tg i = true := by unfold owB; rw [hb, decide_eq_true hsi, decide_eq_true (show _ ≠ _ from q0)]; rfl
      rw [ptN, tfN, if_pos e, if_pos ⟨e, q1⟩]
/-- ENDED, downward -/
def edN (C : pt_M) (a : Int32) : Nat → Int32 → Int32
  | 0, x => x
  | i + 1, x => edN C a i (if (C (5 + 3 * i) 2 = 0 ∧ ((C (5 + 3 * i) 5 &&& C 1 6) &&& a) ≠ 0) ∨ (C (5 + 3 * i) 2 = 1 ∧ C (5 + 3 * i) 5 ≠ 0 ∧ (C (5 + 3 * i) 5 &&& (x ^^^ (-1))) = 0) then x ||| s1 i else x)
theorem f_endedAmong {C M : pt_M} {n : Nat} {a : Int32} {Q : Int32 → pt_M → Prop} (hC : chE C M) (hn : C 1 3 = nI n) (h1 : 1 ≤ n) (h20 : n ≤ 20) (h : Q (edN C a n 0) M) : wpX1_endedAmong a M Q := by
  unfold wpX1_endedAmong
  obtain ⟨n', rfl⟩ : ∃ n', n = n' + 1 := ⟨n - 1, by omega⟩
  rw [hC 1 (by omega), hn, nI_pred]
  refine eqv ?_
  have e0 : nI n' = nI (n' + 1) + (-1) := (nI_m1 n').symm
  rw [e0]
  refine lp_down (S := Int32 × Int32 × pt_M) (lp := fun k z => lpX1_endedAmong_9 a Q k z.1 z.2.1 z.2.2) (lb := fun R z => lbX1_endedAmong_9 a Q (fun a b c => R (a, b, c)) z.1 z.2.1 z.2.2) (fun _ _ => rfl) (fun i z => ∃ x, z = (x, nI i + (-1), M) ∧ i ≤ n' + 1 ∧ edN C a i x = edN C a (n' + 1) 0) ?_ (i := n' + 1) (s := (0, nI (n' + 1) + (-1), M)) ⟨0, rfl, Nat.le_refl _, rfl⟩
  rintro i z ⟨x, rfl, hi, he⟩ R hR
  show lbX1_endedAmong_9 _ _ (fun a b c => R (a, b, c)) x (nI i + (-1)) M
  match i, hi, he, hR with
  | 0, hi, he, hR =>
    unfold lbX1_endedAmong_9
    refine ⟨fun _ => ?_, fun q => absurd (by decide) q⟩
    rw [← he] at h
    exact h
  | i + 1, hi, he, hR =>
    rw [nI_m1]
    unfold lbX1_endedAmong_9
    refine ⟨fun q => absurd q (nI_pos (by omega)), fun _ => ?_⟩
    have hin : vp_in (nI i) 20 := nI_in' (by omega) (by omega)
    have e1 : M 1 6 = C 1 6 := by rw [hC 1 (by omega)]
    rw [pt_s_n (by omega), hC (5 + 3 * i) (by omega), e1]
    have go0 : ¬ ((C (5 + 3 * i) 2 = 0 ∧ ((C (5 + 3 * i) 5 &&& C 1 6) &&& a) ≠ 0) ∨ (C (5 + 3 * i) 2 = 1 ∧ C (5 + 3 * i) 5 ≠ 0 ∧ (C (5 + 3 * i) 5 &&& (x ^^^ (-1))) = 0)) → R (x, nI i + (-1), M) := fun q => hR i _ rfl ⟨x, rfl, by omega, by rw [edN, if_neg q] at he; exact he⟩
    have go1 : ((C (5 + 3 * i) 2 = 0 ∧ ((C (5 + 3 * i) 5 &&& C 1 6) &&& a) ≠ 0) ∨ (C (5 + 3 * i) 2 = 1 ∧ C (5 + 3 * i) 5 ≠ 0 ∧ (C (5 + 3 * i) 5 &&& (x ^^^ (-1))) = 0)) → R (x ||| s1 i, nI i + (-1), M) := fun q => hR i _ rfl ⟨_, rfl, by omega, by rw [edN, if_pos q] at he; exact he⟩
    have n01 : ¬ (0 : Int32) = 1 := by decide
    refine ⟨hin, eqv ⟨hin, fun k0 => ?_, fun k0 => ⟨fun z0 => ?_, fun z0 => ?_⟩⟩⟩
    · unfold wjX1_endedAmong_52 wjX1_endedAmong_53 wjX1_endedAmong_86 wjX1_endedAmong_87 wjX1_endedAmong_99 wjX1_endedAmong_106
      rw [pt_s_n (by omega), hC (5 + 3 * i) (by omega)]
      have no : ∀ {A : Prop}, ¬ (0 : Int32) = 0 → A := fun q => absurd rfl q
      refine ⟨hin, fun k1 => ⟨no, fun _ => ⟨fun _ => eqv (go0 ?_), no⟩⟩, fun k1 => ⟨fun p0 => ⟨no, fun _ => ⟨fun _ => eqv (go0 ?_), no⟩⟩, fun p0 => ⟨fun c0 => ⟨no, fun _ => ⟨fun _ => eqv (go0 ?_), no⟩⟩, fun c0 => ⟨no, fun _ => ⟨fun q => absurd q (by decide), fun _ => f_setOf (eqv (eqv (go1 ?_)))⟩⟩⟩⟩⟩
      · exact fun z => z.elim (fun z => k0 z.1) (fun z => k1 z.1)
      · exact fun z => z.elim (fun z => k0 z.1) (fun z => z.2.1 p0)
      · exact fun z => z.elim (fun z => k0 z.1) (fun z => c0 z.2.2)
      · exact Or.inr ⟨k1, p0, c0⟩
    · unfold wjX1_endedAmong_52 wjX1_endedAmong_53 wjX1_endedAmong_86 wjX1_endedAmong_87 wjX1_endedAmong_106
      rw [pt_s_n (by omega), hC (5 + 3 * i) (by omega)]
      have no : ∀ {A : Prop}, ¬ (0 : Int32) = 0 → A := fun q => absurd rfl q
      refine ⟨hin, fun k1 => ⟨no, fun _ => ⟨fun _ => eqv (go0 ?_), no⟩⟩, fun k1 => absurd (k0.symm.trans k1) n01⟩
      exact fun z => z.elim (fun z => z.2 z0) (fun z => k1 z.1)
    · unfold wjX1_endedAmong_53 wjX1_endedAmong_86 wjX1_endedAmong_87 wjX1_endedAmong_99 wjX1_endedAmong_106
      rw [pt_s_n (by omega), hC (5 + 3 * i) (by omega)]
      refine ⟨hin, fun k1 => ⟨fun _ => f_setOf (eqv (eqv (go1 (Or.inl ⟨k0, z0⟩)))), fun q => absurd q (by decide)⟩, fun k1 => absurd (k0.symm.trans k1) n01⟩
