/-! ===== a tick, the QUEUE, and how it SETTLES ===== -/
def glC (n : Nat) (c : pC) : pC := (c.1, (fun s => if s < n ∧ bt c.1 s = true then c.2.1 s + 1 else c.2.1 s), c.2.2)
theorem f_growOlder {C M : pt_M} {n m p : Nat} {c : pC} {Q : pt_M → Prop} (hp : 125 ≤ p) (hC : chE C M) (hO : chO C n m) (hc : isC p M c) (h : ∀ M', frM p M M' → M' p 4 = M p 4 + 1 → M' p 6 = M p 6 → M' (p + 5) = M (p + 5) → isC p M' (glC n c) → Q M') : wpX3_growOlder p M Q := by
  obtain ⟨hn, h1, h20⟩ := hO.n
  unfold wpX3_growOlder
  refine eqv ?_
  refine lp_up (S := Int32 × pt_M) (lp := fun k z => lpX3_growOlder_12 p Q k z.1 z.2) (lb := fun R z => lbX3_growOlder_12 p Q (fun a b => R (a, b)) z.1 z.2) (fun _ _ => rfl) n (fun i z => z.1 = nI i ∧ frM p M z.2 ∧ z.2 p 4 = M p 4 + 1 ∧ z.2 p 6 = M p 6 ∧ z.2 (p + 5) = M (p + 5) ∧ isC p z.2 (glC i c)) ?_ (i := 0) (s := (0, pt_st M p 4 (M p 4 + 1))) (Nat.zero_le _) ⟨i0, frM.st (by omega) (by omega), st_at, st_ne (by decide), pt_st_o (by omega), ?_⟩
  rotate_left
  · refine (hc.st0 (by decide)).ext rfl (fun s _ => ?_) (fun _ _ => rfl) (fun _ _ => rfl) rfl
    show _ = (if s < 0 ∧ bt c.1 s = true then c.2.1 s + 1 else c.2.1 s)
    rw [if_neg (fun z => absurd z.1 (Nat.not_lt_zero _))]
  rintro i ⟨x, M1⟩ hi ⟨e, hf, h4, h6, h5, hc1⟩ R hR
  dsimp only at e hf h4 h6 h5 hc1
  subst e
  have hC1 := hf.chE hp hC
  show lbX3_growOlder_12 p Q (fun a b => R (a, b)) (nI i) M1
  unfold lbX3_growOlder_12 wjX3_growOlder_50
  rw [hC1 1 (by omega), hn]
  refine ⟨fun q => ?_, fun q => ?_⟩
  · have := le_of_nI (by omega) (by omega) q
    have e : i = n := by omega
    subst e; exact h M1 hf h4 h6 h5 hc1
  · have hl := lt_of_nI (by omega) (by omega) q
    have hin : vp_in (nI i) 20 := nI_in' (by omega) (by omega)
    have eA : M1 (p + 1) 3 = c.1 := hc1.1
    rw [eA]
    refine f_has (by omega) (br0 (fun hb => nx (hR _ hl ⟨rfl, hf, h4, h6, h5, ?_⟩)) (fun hb => ⟨hin, hin, ?_⟩))
    · refine hc1.ext rfl (fun s _ => ?_) (fun _ _ => rfl) (fun _ _ => rfl) rfl
      show (if s < i ∧ bt c.1 s = true then c.2.1 s + 1 else c.2.1 s) = (if s < i + 1 ∧ bt c.1 s = true then c.2.1 s + 1 else c.2.1 s)
      refine ifc ⟨fun z => ⟨by omega, z.2⟩, fun z => ⟨?_, z.2⟩⟩
      rcases Nat.lt_or_eq_of_le (Nat.le_of_lt_succ z.1) with y | rfl
      · exact y
      · rw [hb] at z; exact absurd z.2 (by decide)
    · rw [nI_clamp (by omega), show p + 1 + 1 = p + 2 from rfl]
      refine eqv (nx (hR _ hl ⟨rfl, hf.tr (frM.st (by omega) (by omega)), ?_, ?_, ?_, ?_⟩))
      · dsimp only; rw [pt_st_o (show p ≠ p + 2 by omega)]; exact h4
      · dsimp only; rw [pt_st_o (show p ≠ p + 2 by omega)]; exact h6
      · dsimp only; rw [pt_st_o (show p + 5 ≠ p + 2 by omega)]; exact h5
      · refine (hc1.age (i := i) (x := M1 (p + 2) i + 1)).ext rfl (fun s _ => ?_) (fun _ _ => rfl) (fun _ _ => rfl) rfl
        rw [hc1.2.1 i (by omega)]
        show (if s = i then (if i < i ∧ bt c.1 i = true then c.2.1 i + 1 else c.2.1 i) + 1 else (if s < i ∧ bt c.1 s = true then c.2.1 s + 1 else c.2.1 s)) = (if s < i + 1 ∧ bt c.1 s = true then c.2.1 s + 1 else c.2.1 s)
        by_cases e : s = i
        · subst e
          rw [if_pos rfl, if_neg (fun z => absurd z.1 (Nat.lt_irrefl _)), if_pos ⟨Nat.lt_succ_self _, hb⟩]
        · rw [if_neg e]
          exact ifc ⟨fun z => ⟨by omega, z.2⟩, fun z => ⟨by omega, z.2⟩⟩
def lqC (c : pC) : pC := (c.1, c.2.1, c.2.2.1, c.2.2.2.1, [])
theorem f_loseQueue {M : pt_M} {p : Nat} {c : pC} {Q : pt_M → Prop} (hc : isC p M c) (h : ∀ M', smM p M M' → isC p M' (lqC c) → Q M') : wpX3_loseQueue p M Q := by
  unfold wpX3_loseQueue
  refine eqv (eqv (h _ ((smM.st0 (Or.inl rfl)).tr (smM.st0 (Or.inr rfl))) ?_))
  have hc' := hc.st0 (j := 5) (x := M p 5 + M p 8) (by decide)
  unfold isC isQ at hc' ⊢
  rw [pt_st_o (show p + 1 ≠ p by omega), pt_st_o (show p + 2 ≠ p by omega), pt_st_o (show p + 3 ≠ p by omega), pt_st_o (show p + 4 ≠ p by omega), pt_st_o (show p + 6 ≠ p by omega), st_at]
  exact ⟨hc'.1, hc'.2.1, hc'.2.2.1, hc'.2.2.2.1, i0, Nat.zero_le _, fun i x e => by simp [lqC] at e⟩
theorem f_nextEvent {M : pt_M} {p : Nat} {c : pC} {e : Int32} {q : List Int32} {Q : Int32 → pt_M → Prop} (hc : isC p M c) (hq : c.2.2.2.2 = e :: q) (h : ∀ M', smM p M M' → isC p M' (c.1, c.2.1, c.2.2.1, c.2.2.2.1, q) → Q e M') : wpX3_nextEvent p M Q := by
  obtain ⟨hq1, hq2, hq3⟩ := hc.2.2.2.2
  rw [hq] at hq1 hq2 hq3
  have hq2 : q.length + 1 ≤ 8 := hq2
  unfold wpX3_nextEvent
  rw [i0, nI_clamp (by omega), hq3 0 e rfl]
  refine ⟨nI_in' (by omega) (by omega), eqv ?_⟩
  refine lp_up (S := Int32 × Int32 × pt_M) (lp := fun k z => lpX3_nextEvent_9 p Q k z.1 z.2.1 z.2.2) (lb := fun R z => lbX3_nextEvent_9 p Q (fun a b c => R (a, b, c)) z.1 z.2.1 z.2.2) (fun _ _ => rfl) 8 (fun i z => z.1 = e ∧ z.2.1 = nI i ∧ 1 ≤ i ∧ smM p M z.2.2 ∧ (∀ k, k ≠ p + 6 → z.2.2 k = M k) ∧ (∀ j, j + 1 < i → z.2.2 (p + 6) j = M (p + 6) (j + 1)) ∧ (∀ j, i ≤ j + 1 → z.2.2 (p + 6) j = M (p + 6) j)) ?_ (i := 1) (s := (e, 1, M)) (by omega) ⟨rfl, rfl, Nat.le_refl _, smM.rf, fun _ _ => rfl, fun j hj => by omega, fun _ _ => rfl⟩
  rintro i ⟨x, y, M1⟩ hi ⟨e1, e2, h1, hs, ho, hlo, hhi⟩ R hR
  dsimp only at e1 e2 hs ho hlo hhi
  subst e1 e2
  show lbX3_nextEvent_9 p Q (fun a b c => R (a, b, c)) x (nI i) M1
  unfold lbX3_nextEvent_9
  refine ⟨fun z => ?_, fun z => ?_⟩
  · have := le_of_nI (a := 8) (by omega) (by omega) z
    have ei : i = 8 := by omega
    subst ei
    refine eqv (h _ (hs.tr (smM.st0 (Or.inr rfl))) ?_)
    rw [ho p (by omega), hq1]
    show isC p (pt_st M1 p 8 (nI (q.length + 1) - 1)) _
    rw [nI_pred]
    unfold isC isQ at hc ⊢
    rw [pt_st_o (show p + 1 ≠ p by omega), pt_st_o (show p + 2 ≠ p by omega), pt_st_o (show p + 3 ≠ p by omega), pt_st_o (show p + 4 ≠ p by omega), pt_st_o (show p + 6 ≠ p by omega), st_at, ho (p + 1) (by omega), ho (p + 2) (by omega), ho (p + 3) (by omega), ho (p + 4) (by omega)]
    refine ⟨hc.1, hc.2.1, hc.2.2.1, hc.2.2.2.1, rfl, Nat.le_of_succ_le hq2, fun j x hj => ?_⟩
    have hj : q[j]? = some x := hj
    have hjl : j < q.length := by
      refine Nat.lt_of_not_le fun z => ?_
      rw [List.getElem?_eq_none z] at hj
      cases hj
    rw [hlo j (by omega)]
    exact hq3 (j + 1) x hj
  · have hl := lt_of_nI (a := 8) (by omega) (by omega) z
    obtain ⟨k, rfl⟩ : ∃ k, i = k + 1 := ⟨i - 1, by omega⟩
    rw [nI_pred, nI_clamp (by omega), nI_clamp (by omega)]
    refine ⟨nI_in' (by omega) (by omega), nI_in' (by omega) (by omega), eqv (nx (hR _ hl ⟨rfl, rfl, by omega, hs.tr (smM.st (by omega)), fun a ha => ?_, fun j hj => ?_, fun j hj => ?_⟩))⟩
    · dsimp only; rw [pt_st_o ha]; exact ho a ha
    · dsimp only
      rw [pt_st_k]
      show (if j = k then _ else _) = _
      by_cases ej : j = k
      · subst ej
        rw [if_pos rfl]
        exact hhi _ (by omega)
      · rw [if_neg ej]; exact hlo j (by omega)
    · dsimp only
      rw [pt_st_k]
      show (if j = k then _ else _) = _
      rw [if_neg (by omega)]
      exact hhi j (by omega)
/-! the rounds of a call -/
def atE (C : pt_M) (a : Int32) : Prop := ((C 5 5 &&& C 1 6) &&& a) ≠ 0
def prN (C : pt_M) (n m : Nat) : Nat → Nat → Nat → pC → pC × List Nat × Nat
  | 0, _, _, c => (c, [], 3)
  | k + 1, cs, fs, c =>
    if ((C 5 5 &&& C 1 6) &&& (stC C n m c cs).1) ≠ 0 then (lqC (stC C n m c cs), tkC C n m c cs, 0)
    else if fs + (if 0 < (tkC C n m c cs).length then 1 else 0) = 12 then (lqC (stC C n m c cs), tkC C n m c cs, 1)
    else if 0 < (tkC C n m c cs).length ∨ cs ≠ 11 then ((prN C n m k 11 (fs + (if 0 < (tkC C n m c cs).length then 1 else 0)) (stC C n m c cs)).1, tkC C n m c cs ++ (prN C n m k 11 (fs + (if 0 < (tkC C n m c cs).length then 1 else 0)) (stC C n m c cs)).2.1, (prN C n m k 11 (fs + (if 0 < (tkC C n m c cs).length then 1 else 0)) (stC C n m c cs)).2.2)
    else match (stC C n m c cs).2.2.2.2 with
      | [] => (stC C n m c cs, tkC C n m c cs, 2)
      | e :: q => ((prN C n m k e.toNatClampNeg (fs + (if 0 < (tkC C n m c cs).length then 1 else 0)) ((stC C n m c cs).1, (stC C n m c cs).2.1, (stC C n m c cs).2.2.1, (stC C n m c cs).2.2.2.1, q)).1, tkC C n m c cs ++ (prN C n m k e.toNatClampNeg (fs + (if 0 < (tkC C n m c cs).length then 1 else 0)) ((stC C n m c cs).1, (stC C n m c cs).2.1, (stC C n m c cs).2.2.1, (stC C n m c cs).2.2.2.1, q)).2.1, (prN C n m k e.toNatClampNeg (fs + (if 0 < (tkC C n m c cs).length then 1 else 0)) ((stC C n m c cs).1, (stC C n m c cs).2.1, (stC C n m c cs).2.2.1, (stC C n m c cs).2.2.2.1, q)).2.2)
/-- events in the QUEUE are events -/
def qB (c : pC) : Prop := ∀ x ∈ c.2.2.2.2, ∃ w, w < 10 ∧ x = nI w
theorem qB.act {C : pt_M} {k : Nat} {c : pC} (hA : acO C k) (h : qB c) : qB (acF C k c) := by
  unfold acF
  split
  · exact h
  · split
    · exact h
    · split
      · rename_i h3
        unfold raF
        split
        · intro x hx
          rcases List.mem_append.mp hx with z | z
          · exact h x z
          · rw [List.mem_singleton.mp z]; exact hA.2 h3
        · exact h
      · exact h
theorem qB.lv {C : pt_M} {lf : Int32} : ∀ {i : Nat} {c : pC}, (∀ s, s < i → acO C (5 + 3 * s + 2)) → qB c → qB (lvN C lf i c)
  | 0, _, _, h => h
  | i + 1, c, hA, h => by
    rw [lvN]
    refine qB.lv (fun s hs => hA s (by omega)) ?_
    split
    · exact qB.act (hA i (by omega)) h
    · exact h
theorem qB.et {C : pt_M} {en : Int32} {c : pC} : ∀ {i : Nat}, (∀ s, s < i → acO C (5 + 3 * s + 1)) → qB c → qB (etN C en i c)
  | 0, _, h => h
  | i + 1, hA, h => by
    rw [etN]
    have := qB.et (c := c) (en := en) (i := i) (fun s hs => hA s (by omega)) h
    split
    · exact qB.act (hA i (by omega)) this
    · exact this
theorem qB.do {C : pt_M} {n : Nat} : ∀ {L : List Nat} {z : pC × Int32}, (∀ t ∈ L, acO C (65 + 2 * t + 1)) → qB z.1 → qB (doF C n L z).1
  | [], _, _, h => h
  | t :: L, z, hA, h => qB.do (L := L) (fun o ho => hA o (List.mem_cons_of_mem _ ho)) (qB.act (hA t List.mem_cons_self) h)
