/-! ===== copies of a SITUATION; what is asked ===== -/
def isS (k : Nat) (M : pt_M) (c : pC) : Prop := M k 3 = c.1 ∧ (∀ s, s < 20 → M (k + 1) s = c.2.1 s) ∧ (∀ s, s < 20 → M (k + 2) s = c.2.2.1 s) ∧ (∀ v, v < 4 → M (k + 3) v = c.2.2.2.1 v)
theorem isC.s {p : Nat} {M : pt_M} {c : pC} (h : isC p M c) : isS (p + 1) M c := ⟨h.1, h.2.1, h.2.2.1, h.2.2.2.1⟩
theorem isS.c {p : Nat} {M : pt_M} {c : pC} {q : List Int32} (h : isS (p + 1) M c) (hq : isQ p M q) : isC p M (c.1, c.2.1, c.2.2.1, c.2.2.2.1, q) := ⟨h.1, h.2.1, h.2.2.1, h.2.2.2, hq⟩
theorem isS.same {k : Nat} {M M' : pt_M} {c : pC} (h : isS k M c) (e0 : M' k = M k) (e1 : M' (k + 1) = M (k + 1)) (e2 : M' (k + 2) = M (k + 2)) (e3 : M' (k + 3) = M (k + 3)) : isS k M' c := by
  unfold isS at h ⊢
  rw [e0, e1, e2, e3]
  exact h
theorem f_copyFrom {M : pt_M} {k0 k1 : Nat} {c : pC} {Q : pt_M → Prop} (hd : k0 + 3 < k1 ∨ k1 + 3 < k0) (hs : isS k1 M c) (h : ∀ M', (∀ k, (k < k0 ∨ k0 + 3 < k) → M' k = M k) → isS k0 M' c → Q M') : wpX4_copyFrom k0 k1 M Q := by
  unfold wpX4_copyFrom
  obtain ⟨a1, a2, a3, a4⟩ := hs
  refine eqv (eqv (eqv (eqv (h _ (fun k hk => ?_) ⟨?_, fun s hs => ?_, fun s hs => ?_, fun s hs => ?_⟩))))
  · rw [pt_cp_o (by omega), pt_cp_o (by omega), pt_cp_o (by omega), pt_st_o (by omega)]
  · rw [pt_cp_o (by omega), pt_cp_o (by omega), pt_cp_o (by omega), st_at, a1]
  · rw [pt_cp_o (by omega), pt_cp_o (by omega), pt_cp_k, ← a2 s hs]
    rw [pt_st_o (show k1 + 1 ≠ k0 by omega)]
    unfold va_cpy
    simp [hs]
  · rw [pt_cp_o (by omega), pt_cp_k, ← a3 s hs]
    rw [pt_cp_o (show k1 + 2 ≠ k0 + 1 by omega), pt_st_o (show k1 + 2 ≠ k0 by omega)]
    unfold va_cpy
    simp [hs]
  · rw [pt_cp_k, ← a4 s hs]
    rw [pt_cp_o (show k1 + 3 ≠ k0 + 2 by omega), pt_cp_o (show k1 + 3 ≠ k0 + 1 by omega), pt_st_o (show k1 + 3 ≠ k0 by omega)]
    unfold va_cpy
    simp [hs]
theorem f_checkRunning {M : pt_M} {Q : pt_M → Prop} (hr : M 0 4 = 1) (h : Q M) : wpX7_checkRunning M Q := by
  unfold wpX7_checkRunning
  rw [hr]
  exact ⟨fun _ => h, fun q => absurd q (by decide)⟩
theorem f_checkResting {M : pt_M} {Q : pt_M → Prop} (hr : M 0 4 = 0) (h : Q M) : wpX7_checkResting M Q := by
  unfold wpX7_checkResting
  rw [hr]
  exact ⟨fun _ => h, fun q => absurd rfl q⟩
theorem f_inR {x a b : Int32} {M : pt_M} {Q : pt_M → Prop} (h1 : a ≤ x) (h2 : x ≤ b) (h : Q M) : wpX7_isWithin x a b M (fun r M => (¬ r = 0 → Q M) ∧ (r = 0 → False)) := f_within h1 h2 ⟨fun _ => h, fun q => absurd q (by decide)⟩
theorem f_checkEvent {M : pt_M} {e : Nat} {Q : pt_M → Prop} (he : e < 10) (h : Q M) : wpX7_checkEvent (nI e) M Q := f_inR (nI_le (a := 0) (Nat.zero_le _) (by omega)) (nI_le (b := 9) (by omega) (by omega)) h
theorem f_checkState {C M : pt_M} {n s : Nat} {Q : pt_M → Prop} (hC : chE C M) (hn : C 1 3 = nI n) (h20 : n ≤ 20) (hs : s < n) (h : Q M) : wpX7_checkState (nI s) M Q := by
  unfold wpX7_checkState
  obtain ⟨k, rfl⟩ : ∃ k, n = k + 1 := ⟨n - 1, by omega⟩
  rw [hC 1 (by omega), hn, nI_pred]
  exact f_inR (nI_le (a := 0) (Nat.zero_le _) (by omega)) (nI_le (by omega) (by omega)) h
theorem f_checkTransition {C M : pt_M} {m t : Nat} {Q : pt_M → Prop} (hC : chE C M) (hm : C 1 4 = nI m) (h30 : m ≤ 30) (ht : t < m) (h : Q M) : wpX7_checkTransition (nI t) M Q := by
  unfold wpX7_checkTransition
  obtain ⟨k, rfl⟩ : ∃ k, m = k + 1 := ⟨m - 1, by omega⟩
  rw [hC 1 (by omega), hm, nI_pred]
  exact f_inR (nI_le (a := 0) (Nat.zero_le _) (by omega)) (nI_le (by omega) (by omega)) h
theorem lqC_id {c : pC} (h : c.2.2.2.2 = []) : lqC c = c := by
  obtain ⟨a, b, d, e, q⟩ := c
  cases h
  rfl
/-- the engine at rest between calls: the chart, that it RUNS, both QUEUES empty, the Play's core -/
def enO (C : pt_M) (n m : Nat) (c : pC) (M : pt_M) : Prop := chE C M ∧ chO C n m ∧ M 0 4 = 1 ∧ isC 125 M c ∧ c.2.2.2.2 = [] ∧ isQ 133 M []
theorem frM.q {p p' : Nat} {M M' : pt_M} {q : List Int32} (h : frM p M M') (hp : p' + 7 < p ∨ p + 7 < p') (hq : isQ p' M q) : isQ p' M' q := by
  unfold isQ at hq ⊢
  rw [h p' (by omega), h (p' + 6) (by omega)]
  exact hq
theorem frM.c {p p' : Nat} {M M' : pt_M} {c : pC} (h : frM p M M') (hp : p' + 7 < p ∨ p + 7 < p') (hc : isC p' M c) : isC p' M' c := by
  unfold isC at hc ⊢
  rw [h (p' + 1) (by omega), h (p' + 2) (by omega), h (p' + 3) (by omega), h (p' + 4) (by omega)]
  exact ⟨hc.1, hc.2.1, hc.2.2.1, hc.2.2.2.1, h.q hp hc.2.2.2.2⟩
theorem qB_nil {c : pC} (h : c.2.2.2.2 = []) : qB c := fun x hx => by rw [h] at hx; cases hx
/-- the rounds' end: the QUEUE is empty -/
theorem prN_q {C : pt_M} {n m : Nat} : ∀ {k cs fs : Nat} {c : pC}, (prN C n m k cs fs c).2.2 < 3 → (prN C n m k cs fs c).1.2.2.2.2 = []
  | 0, _, _, _, h => absurd (show 3 < 3 from h) (by decide)
  | k + 1, cs, fs, c, h => by
    rw [prN] at h ⊢
    generalize fs + (if 0 < (tkC C n m c cs).length then 1 else 0) = f1 at h ⊢
    split at h
    · rename_i h1
      rw [if_pos h1]; rfl
    · rename_i h1
      rw [if_neg h1]
      split at h
      · rename_i h2
        rw [if_pos h2]; rfl
      · rename_i h2
        rw [if_neg h2]
        split at h
        · rename_i h3
          rw [if_pos h3]
          exact prN_q h
        · rename_i h3
          rw [if_neg h3]
          split at h
          · rename_i h4
            exact h4
          · exact prN_q h
theorem pcF_q {C : pt_M} {n m cs : Nat} {c : pC} (h : (pcF C n m cs c).2.2 < 3) : (pcF C n m cs c).1.2.2.2.2 = [] := by
  unfold pcF at h ⊢
  split at h
  · rename_i h1
    rw [if_pos h1]; rfl
  · rename_i h1
    rw [if_neg h1]
    exact prN_q h
/-- a trial's call -/
theorem f_trial {C M : pt_M} {n m k1 cs : Nat} {c : pC} {Q : Int32 → pt_M → Prop} (hC : chE C M) (hO : chO C n m) (hk : k1 + 3 < 134 ∨ 137 < k1) (hcs : cs < 12) (hs : isS k1 M c) (hq : isQ 133 M []) (h : ∀ M', frM 133 M M' → isC 133 M' (pcF C n m cs (lqC c)).1 → isQ 133 M' [] → Q (nI (pcF C n m cs (lqC c)).2.1.length) M') : wpX4_copyFrom (133 + 1) k1 M (fun M1 => wpX3_proceed 133 (nI cs) M1 Q) := by
  refine f_copyFrom (by omega) hs (fun M1 h1 hs1 => ?_)
  have hf1 : frM 133 M M1 := fun k hk => h1 k (by omega)
  have hq1 : isQ 133 M1 [] := by
    unfold isQ at hq ⊢
    rw [h1 133 (by omega), h1 (133 + 6) (by omega)]
    exact hq
  refine f_proceed (c := lqC c) (by omega) (hf1.chE (by omega) hC) hO hcs (qB_nil rfl) (hs1.c hq1) (fun M2 hf2 _ _ _ hc2 hr => h M2 (hf1.tr hf2) hc2 ?_)
  have := hc2.2.2.2.2
  rw [pcF_q hr] at this
  exact this
theorem f_wouldFire {C M : pt_M} {n m e : Nat} {c : pC} {Q : Int32 → pt_M → Prop} (hE : enO C n m c M) (he : e < 10) (h : ∀ M', frM 133 M M' → enO C n m c M' → Q (nI (pcF C n m e c).2.1.length) M') : wpX7_wouldFire (nI e) M Q := by
  obtain ⟨hC, hO, hr, hc, hq, hq3⟩ := hE
  unfold wpX7_wouldFire
  refine f_checkRunning hr (f_checkEvent he (f_trial hC hO (by omega) (by omega) hc.s hq3 (fun M' hf _ hq' => ?_)))
  rw [lqC_id hq]
  exact h M' hf ⟨hf.chE (by omega) hC, hO, by rw [hf 0 (by omega)]; exact hr, hf.c (by omega) hc, hq, hq'⟩
theorem f_wouldBe {C M : pt_M} {n m e : Nat} {c : pC} {Q : Int32 → pt_M → Prop} (hE : enO C n m c M) (he : e < 10) (h : ∀ M', frM 133 M M' → enO C n m c M' → Q (pcF C n m e c).1.1 M') : wpX7_wouldBe (nI e) M Q := by
  obtain ⟨hC, hO, hr, hc, hq, hq3⟩ := hE
  unfold wpX7_wouldBe
  refine f_checkRunning hr (f_checkEvent he (f_trial hC hO (by omega) (by omega) hc.s hq3 (fun M' hf hc' hq' => ?_)))
  rw [lqC_id hq] at hc'
  rw [hc'.1]
  exact h M' hf ⟨hf.chE (by omega) hC, hO, by rw [hf 0 (by omega)]; exact hr, hf.c (by omega) hc, hq, hq'⟩
/-- a call of the engine itself -/
theorem f_send {C M : pt_M} {n m e : Nat} {c : pC} {Q : Int32 → pt_M → Prop} (hE : enO C n m c M) (he : e < 10) (h : ∀ M', frM 125 M M' → enO C n m (pcF C n m e c).1 M' → M' 125 4 = M 125 4 → M' 125 6 = (if (pcF C n m e c).2.2 = 1 then M 125 6 + 1 else M 125 6) → M' 130 = fiF (pcF C n m e c).2.1 (M 130) → (pcF C n m e c).2.2 < 3 → Q (nI (pcF C n m e c).2.1.length) M') : wpX7_send (nI e) M Q := by
  obtain ⟨hC, hO, hr, hc, hq, hq3⟩ := hE
  unfold wpX7_send
  refine f_checkRunning hr (f_checkEvent he (f_proceed (by omega) hC hO (by omega) (qB_nil hq) hc (fun M' hf h4 h6 h5 hc' hr' => h M' hf ⟨hf.chE (by omega) hC, hO, by rw [hf 0 (by omega)]; exact hr, hc', pcF_q hr', hf.q (by omega) hq3⟩ ?_ h6 h5 hr')))
  rw [h4, if_neg (fun z => absurd z.2 (by omega))]
theorem f_tick {C M : pt_M} {n m : Nat} {c : pC} {Q : Int32 → pt_M → Prop} (hE : enO C n m c M) (h : ∀ M', frM 125 M M' → enO C n m (pcF C n m 10 c).1 M' → M' 125 4 = (if ((C 5 5 &&& C 1 6) &&& c.1) ≠ 0 then M 125 4 else M 125 4 + 1) → M' 125 6 = (if (pcF C n m 10 c).2.2 = 1 then M 125 6 + 1 else M 125 6) → M' 130 = fiF (pcF C n m 10 c).2.1 (M 130) → (pcF C n m 10 c).2.2 < 3 → Q (nI (pcF C n m 10 c).2.1.length) M') : wpX7_tick 1 M Q := by
  obtain ⟨hC, hO, hr, hc, hq, hq3⟩ := hE
  unfold wpX7_tick
  refine f_checkRunning hr (f_within (by decide) (by decide) ⟨fun _ => ⟨2, ?_⟩, fun q => absurd q (by decide)⟩)
  show lbX7_tick_26 1 Q (lpX7_tick_26 1 Q 1) 0 0 M
  unfold lbX7_tick_26
  refine ⟨fun q => absurd q (by decide), fun _ => f_proceed (cs := 10) (by omega) hC hO (by omega) (qB_nil hq) hc (fun M' hf h4 h6 h5 hc' hr' => eqv (eqv ?_))⟩
  show lbX7_tick_26 1 Q (lpX7_tick_26 1 Q 0) _ _ M'
  unfold lbX7_tick_26
  refine ⟨fun _ => ?_, fun q => absurd (by decide) q⟩
  rw [Int32.zero_add]
  refine h M' hf ⟨hf.chE (by omega) hC, hO, by rw [hf 0 (by omega)]; exact hr, hc', pcF_q hr', hf.q (by omega) hq3⟩ ?_ h6 h5 hr'
  rw [h4]
  by_cases hx : ((C 5 5 &&& C 1 6) &&& c.1) ≠ 0
  · rw [if_pos hx, if_neg (fun z => z.1 hx)]
  · rw [if_neg hx, if_pos ⟨hx, rfl⟩]
/-- the set of events for which one is OPEN -/
def onF (C : pt_M) (n m : Nat) (c : pC) : Int32 := mk (fun e => decide (e < 10) && decide (opC C n m c e ≠ 0))
theorem f_open {C M : pt_M} {n m : Nat} {c : pC} {Q : Int32 → pt_M → Prop} (hE : enO C n m c M) (h : Q (onF C n m c) M) : wpX7_open M Q := by
  obtain ⟨hC, hO, hr, hc, hq, hq3⟩ := hE
  unfold wpX7_open
  refine f_checkRunning hr ?_
  refine lp_up (S := Int32 × Int32 × pt_M) (lp := fun k z => lpX7_open_8 Q k z.1 z.2.1 z.2.2) (lb := fun R z => lbX7_open_8 Q (fun a b c => R (a, b, c)) z.1 z.2.1 z.2.2) (fun _ _ => rfl) 10 (fun i z => z = (mk (fun e => decide (e < i) && decide (opC C n m c e ≠ 0)), nI i, M)) ?_ (i := 0) (s := (0, 0, M)) (Nat.zero_le _) ?_
  · rintro i z hi rfl R hR
    show lbX7_open_8 Q (fun a b c => R (a, b, c)) _ (nI i) M
    unfold lbX7_open_8 wjX7_open_32
    refine ⟨fun q => ?_, fun q => ?_⟩
    · have := le_of_nI (a := 10) (by omega) (by omega) q
      have e : i = 10 := by omega
      subst e
      exact h
    · have hl := lt_of_nI (a := 10) (by omega) (by omega) q
      refine f_openBy hC hO (by omega) ?_
      rw [show opF C n m (M (125 + 1) 3) (M (125 + 2)) (M (125 + 4)) i = opC C n m c i by rw [hc.1]; exact opF_c hO hc.2.2.2.1 hc.2.1]
      refine ⟨fun q0 => nx (hR _ hl ?_), fun q0 => f_setOf (eqv (nx (hR _ hl ?_)))⟩
      · congr 1
        refine mk_congr fun e he => ?_
        by_cases ei : e = i
        · subst ei
          rw [decide_eq_false (show ¬ opC C n m c e ≠ 0 from fun z => z q0), Bool.and_false, Bool.and_false]
        · congr 2; exact propext ⟨fun _ => by omega, fun _ => by omega⟩
      · congr 1
        refine mk_ext fun e he => ?_
        rw [b_or, b_mk he, b_s1 (by omega) he]
        by_cases ei : e = i
        · subst ei
          rw [decide_eq_true (show opC C n m c e ≠ 0 from q0), decide_eq_true rfl, decide_eq_true (Nat.lt_succ_self _)]
          simp
        · rw [decide_eq_false ei, Bool.or_false]
          congr 2; exact propext ⟨fun _ => by omega, fun _ => by omega⟩
  · rw [i0]
    congr 1
    refine b_ext fun i hi => ?_
    rw [← i0, b_0, b_mk hi, decide_eq_false (Nat.not_lt_zero _)]
    rfl
theorem f_isOver {C M : pt_M} {n m : Nat} {c : pC} {Q : Int32 → pt_M → Prop} (hE : enO C n m c M) (h : Q (if ((C 5 5 &&& C 1 6) &&& c.1) ≠ 0 then 1 else 0) M) : wpX7_isOver M Q := by
  obtain ⟨hC, hO, hr, hc, hq, hq3⟩ := hE
  unfold wpX7_isOver wjX7_isOver_21 wjX7_isOver_22
  rw [hr]
  refine ⟨fun q => absurd q (by decide), fun _ => f_isAtEnd hC ?_⟩
  rw [hc.1]
  refine brp0 (fun z => ?_) (fun z => ?_)
  · rw [if_neg z] at h; exact ⟨Or.inl rfl, h⟩
  · rw [if_pos z] at h; exact ⟨Or.inr rfl, h⟩
