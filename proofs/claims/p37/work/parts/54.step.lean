/-! ===== parts of a STEP ===== -/
theorem chO.n {C : pt_M} {n m : Nat} (h : chO C n m) : C 1 3 = nI n ∧ 1 ≤ n ∧ n ≤ 20 := h.1
theorem chO.m {C : pt_M} {n m : Nat} (h : chO C n m) : C 1 4 = nI m ∧ m ≤ 30 := h.2.1
theorem chO.s {C : pt_M} {n m : Nat} (h : chO C n m) {s : Nat} (hs : s < n) : stO C n s := h.2.2.2.1 s hs
theorem chO.t {C : pt_M} {n m : Nat} (h : chO C n m) {t : Nat} (ht : t < m) : trO C n t := h.2.2.2.2.1 t ht
theorem nI_inj {a b : Nat} (ha : a < 2 ^ 31) (hb : b < 2 ^ 31) (h : nI a = nI b) : a = b := (nI_eq ha hb).mp h
theorem chO.k {C : pt_M} {n m : Nat} (h : chO C n m) {s k : Nat} (hs : s < n) (hk : k < 2 ^ 31) : C (5 + 3 * s) 2 = nI k ↔ cK C s = k := by
  have h1 := (h.s hs).1
  rw [h1.1]
  exact ⟨fun e => nI_inj (by omega) hk e, fun e => by rw [e]⟩
theorem chO.pos {C : pt_M} {n m : Nat} (h : chO C n m) {s : Nat} (hk : cK C s ≠ 0) : 0 < s := Nat.pos_of_ne_zero fun e => hk (by rw [e]; exact h.2.2.1.1)
/-- RECORDS made as STATES are left -/
def rcF (C : pt_M) (a : Int32) (s : Nat) : Int32 := (if C (5 + 3 * s) 2 = 3 then C (5 + 3 * cP C s) 5 else C (5 + 3 * cP C s) 7 &&& C 1 5) &&& a
def mrN (C : pt_M) (lf : Int32) (i : Nat) (c : pC) : pC := (c.1, c.2.1, (fun s => if (s < i ∧ (C (5 + 3 * s) 2 = 3 ∨ C (5 + 3 * s) 2 = 4)) ∧ bt lf (cP C s) = true then rcF C c.1 s else c.2.2.1 s), c.2.2.2)
theorem mrN_at {C : pt_M} {lf : Int32} {i : Nat} {c : pC} (s : Nat) : (mrN C lf i c).2.2.1 s = (if (s < i ∧ (C (5 + 3 * s) 2 = 3 ∨ C (5 + 3 * s) 2 = 4)) ∧ bt lf (cP C s) = true then rcF C c.1 s else c.2.2.1 s) := rfl
theorem ifc {α : Type} {p q : Prop} [Decidable p] [Decidable q] {a b : α} (h : p ↔ q) : (if p then a else b) = (if q then a else b) := by
  by_cases hp : p
  · rw [if_pos hp, if_pos (h.mp hp)]
  · rw [if_neg hp, if_neg (fun z => hp (h.mpr z))]
theorem isC.ext {p : Nat} {M : pt_M} {c d : pC} (h : isC p M c) (h1 : c.1 = d.1) (h2 : ∀ s, s < 20 → c.2.1 s = d.2.1 s) (h3 : ∀ s, s < 20 → c.2.2.1 s = d.2.2.1 s) (h4 : ∀ s, s < 4 → c.2.2.2.1 s = d.2.2.2.1 s) (h5 : c.2.2.2.2 = d.2.2.2.2) : isC p M d := by
  unfold isC at h ⊢
  rw [← h1, ← h5]
  exact ⟨h.1, fun s hs => (h.2.1 s hs).trans (h2 s hs), fun s hs => (h.2.2.1 s hs).trans (h3 s hs), fun s hs => (h.2.2.2.1 s hs).trans (h4 s hs), h.2.2.2.2⟩
theorem f_makeRecords {C M : pt_M} {n m p : Nat} {lf : Int32} {c : pC} {Q : pt_M → Prop} (hp : 125 ≤ p) (hC : chE C M) (hO : chO C n m) (hc : isC p M c) (h : ∀ M', smM p M M' → isC p M' (mrN C lf n c) → Q M') : wpX3_makeRecords p lf M Q := by
  obtain ⟨hn, h1, h20⟩ := hO.n
  refine lp_up (S := Int32 × pt_M) (lp := fun k z => lpX3_makeRecords_2 p lf Q k z.1 z.2) (lb := fun R z => lbX3_makeRecords_2 p lf Q (fun a b => R (a, b)) z.1 z.2) (fun _ _ => rfl) n (fun i z => z.1 = nI i ∧ smM p M z.2 ∧ isC p z.2 (mrN C lf i c)) ?_ (i := 0) (s := (0, M)) (Nat.zero_le _) ⟨i0, smM.rf, hc.ext rfl (fun _ _ => rfl) (fun s _ => by rw [mrN_at, if_neg (fun z => absurd z.1.1 (Nat.not_lt_zero _))]) (fun _ _ => rfl) rfl⟩
  rintro i ⟨x, M1⟩ hi ⟨e, hs, hc1⟩ R hR
  dsimp only at e hs hc1
  subst e
  have hC1 : chE C M1 := hs.1.chE hp hC
  show lbX3_makeRecords_2 p lf Q (fun a b => R (a, b)) (nI i) M1
  unfold lbX3_makeRecords_2 wjX3_makeRecords_105
  rw [hC1 1 (by omega), hn]
  refine ⟨fun q => ?_, fun q => ?_⟩
  · have := le_of_nI (by omega) (by omega) q
    have e : i = n := by omega
    subst e; exact h M1 hs hc1
  · have hlt := lt_of_nI (by omega) (by omega) q
    have hin : vp_in (nI i) 20 := nI_in' (by omega) (by omega)
    have eI : M1 (5 + 3 * i) = C (5 + 3 * i) := hC1 _ (by omega)
    rw [pt_s_n (by omega)]
    have same : ¬ ((C (5 + 3 * i) 2 = 3 ∨ C (5 + 3 * i) 2 = 4) ∧ bt lf (cP C i) = true) → R (nI (i + 1), M1) := fun q => hR _ hlt ⟨rfl, hs, hc1.ext rfl (fun _ _ => rfl) (fun s _ => by
      rw [mrN_at, mrN_at]
      by_cases e : s = i
      · subst e
        rw [if_neg (fun z => absurd z.1.1 (Nat.lt_irrefl _)), if_neg (fun z => q ⟨z.1.2, z.2⟩)]
      · exact ifc ⟨fun z => ⟨⟨by omega, z.1.2⟩, z.2⟩, fun z => ⟨⟨by omega, z.1.2⟩, z.2⟩⟩) (fun _ _ => rfl) rfl⟩
    refine ⟨hin, f_isMark (brp0 (fun hk => nx (same ?_)) (fun hk => ?_))⟩
    · rw [eI] at hk
      exact fun z => hk z.1
    · rw [eI] at hk ⊢
      have hk0 : cK C i ≠ 0 := fun e => by
        have e2 := (hO.k hlt (k := 0) (by omega)).mpr e
        rw [e2] at hk
        rcases hk with z | z <;> exact absurd z (by decide)
      obtain ⟨eP, hP, -⟩ := (hO.s hlt).2.1 (hO.pos hk0)
      rw [eP]
      refine f_has (by omega) (br0 (fun hb => ?_) (fun hb => ?_))
      · intro y e
        rw [e, nI_1]
        refine same ?_
        rw [hb]
        exact fun z => absurd z.2 (by decide)
      · have eA : M1 (p + 1) 3 = c.1 := hc1.1
        rw [eI, eP]
        refine ⟨nI_in' (by omega) (by omega), ?_⟩
        have go : ∀ y : Int32, y &&& c.1 = rcF C c.1 i → wjX3_makeRecords_84 p lf Q (fun a b => R (a, b)) (nI i) y M1 := fun y hy => by
          unfold wjX3_makeRecords_84 wjX3_makeRecords_105
          refine ⟨hin, eqv (nx (hR _ hlt ⟨rfl, hs.tr (smM.st (by omega)), ?_⟩))⟩
          rw [eA, hy, nI_clamp (by omega)]
          refine (hc1.rec (i := i) (x := rcF C c.1 i)).ext rfl (fun _ _ => rfl) (fun s _ => ?_) (fun _ _ => rfl) rfl
          show (if s = i then rcF C c.1 i else (mrN C lf i c).2.2.1 s) = (mrN C lf (i + 1) c).2.2.1 s
          rw [mrN_at, mrN_at]
          by_cases e : s = i
          · subst e
            rw [if_pos rfl, if_pos ⟨⟨Nat.lt_succ_self _, hk⟩, hb⟩]
          · rw [if_neg e]
            exact ifc ⟨fun z => ⟨⟨by omega, z.1.2⟩, z.2⟩, fun z => ⟨⟨by omega, z.1.2⟩, z.2⟩⟩
        rw [pt_s_n (by omega), hC1 (5 + 3 * cP C i) (by omega), hC1 1 (by omega)]
        refine ⟨fun q3 => go _ ?_, fun q3 => go _ ?_⟩
        · unfold rcF; rw [if_neg q3]
        · unfold rcF; rw [if_pos q3]
/-- leaving, downward -/
def lv1 (i : Nat) (c : pC) : pC := (c.1 &&& (s1 i ^^^ (-1)), upI c.2.1 i (-1), c.2.2)
def lvN (C : pt_M) (lf : Int32) : Nat → pC → pC
  | 0, c => c
  | i + 1, c => lvN C lf i (if bt lf i = true then acF C (5 + 3 * i + 2) (lv1 i c) else c)
theorem f_leave {C M : pt_M} {n m p : Nat} {lf : Int32} {c : pC} {Q : pt_M → Prop} (hp : 125 ≤ p) (hC : chE C M) (hO : chO C n m) (hc : isC p M c) (h : ∀ M', smM p M M' → isC p M' (lvN C lf n c) → Q M') : wpX3_leave p lf M Q := by
  obtain ⟨hn, h1, h20⟩ := hO.n
  unfold wpX3_leave
  obtain ⟨n', rfl⟩ : ∃ n', n = n' + 1 := ⟨n - 1, by omega⟩
  rw [hC 1 (by omega), hn, nI_pred]
  refine eqv ?_
  have e0 : nI n' = nI (n' + 1) + (-1) := (nI_m1 n').symm
  rw [e0]
  refine lp_down (S := Int32 × pt_M) (lp := fun k z => lpX3_leave_10 p lf Q k z.1 z.2) (lb := fun R z => lbX3_leave_10 p lf Q (fun a b => R (a, b)) z.1 z.2) (fun _ _ => rfl) (fun i z => z.1 = nI i + (-1) ∧ i ≤ n' + 1 ∧ smM p M z.2 ∧ ∃ d, isC p z.2 d ∧ lvN C lf i d = lvN C lf (n' + 1) c) ?_ (i := n' + 1) (s := (nI (n' + 1) + (-1), M)) ⟨rfl, Nat.le_refl _, smM.rf, c, hc, rfl⟩
  rintro i ⟨x, M1⟩ ⟨e, hi, hs, d, hd, he⟩ R hR
  dsimp only at e hs hd
  subst e
  have hC1 : chE C M1 := hs.1.chE hp hC
  show lbX3_leave_10 p lf Q (fun a b => R (a, b)) (nI i + (-1)) M1
  match i, hi, he, hR with
  | 0, hi, he, hR =>
    unfold lbX3_leave_10
    refine ⟨fun _ => h M1 hs ?_, fun q => absurd (by decide) q⟩
    rw [← he]; exact hd
  | i + 1, hi, he, hR =>
    rw [nI_m1]
    unfold lbX3_leave_10 wjX3_leave_66
    have hin : vp_in (nI i) 20 := nI_in' (by omega) (by omega)
    refine ⟨fun q => absurd q (nI_pos (by omega)), fun _ => f_has (by omega) (br0 (fun hb => eqv ?_) (fun hb => f_setOf (eqv ⟨hin, eqv ⟨hin, ?_⟩⟩)))⟩
    · refine hR i _ rfl ⟨rfl, by omega, hs, d, hd, ?_⟩
      rw [← he]
      show _ = lvN C lf i (if _ then _ else _)
      rw [hb, if_neg (by decide)]
    · rw [pt_s_n (by omega), nI_clamp (by omega), show p + 1 + 1 = p + 2 from rfl]
      have hc2 := (hd.act (x := M1 (p + 1) 3 &&& (s1 i ^^^ (-1)))).age (i := i) (x := -1)
      rw [hd.1] at hc2 ⊢
      have hs2 := (hs.tr (smM.st (k := p + 1) (j := 3) (x := d.1 &&& (s1 i ^^^ (-1))) (by omega))).tr (smM.st (k := p + 2) (j := i) (x := -1) (by omega))
      refine f_act (hs2.1.chE hp hC) (by omega) (hO.s (by omega)).2.2.2.2.2.2 hc2 (fun M' hs' hc' => eqv (hR i _ rfl ⟨rfl, by omega, hs2.tr hs', _, hc', ?_⟩))
      rw [← he]
      show _ = lvN C lf i (if _ then _ else _)
      rw [if_pos hb]
      rfl
/-- entering, upward -/
def et1 (i : Nat) (c : pC) : pC := (c.1 ||| s1 i, upI c.2.1 i 0, c.2.2)
def etN (C : pt_M) (en : Int32) : Nat → pC → pC
  | 0, c => c
  | i + 1, c => if bt en i = true then acF C (5 + 3 * i + 1) (et1 i (etN C en i c)) else etN C en i c
theorem f_enter {C M : pt_M} {n m p : Nat} {en : Int32} {c : pC} {Q : pt_M → Prop} (hp : 125 ≤ p) (hC : chE C M) (hO : chO C n m) (hc : isC p M c) (h : ∀ M', smM p M M' → isC p M' (etN C en n c) → Q M') : wpX3_enter p en M Q := by
  obtain ⟨hn, h1, h20⟩ := hO.n
  refine lp_up (S := Int32 × pt_M) (lp := fun k z => lpX3_enter_2 p en Q k z.1 z.2) (lb := fun R z => lbX3_enter_2 p en Q (fun a b => R (a, b)) z.1 z.2) (fun _ _ => rfl) n (fun i z => z.1 = nI i ∧ smM p M z.2 ∧ isC p z.2 (etN C en i c)) ?_ (i := 0) (s := (0, M)) (Nat.zero_le _) ⟨i0, smM.rf, hc⟩
  rintro i ⟨x, M1⟩ hi ⟨e, hs, hd⟩ R hR
  dsimp only at e hs hd
  subst e
  have hC1 : chE C M1 := hs.1.chE hp hC
  show lbX3_enter_2 p en Q (fun a b => R (a, b)) (nI i) M1
  unfold lbX3_enter_2 wjX3_enter_63
  rw [hC1 1 (by omega), hn]
  refine ⟨fun q => ?_, fun q => ?_⟩
  · have := le_of_nI (by omega) (by omega) q
    have e : i = n := by omega
    subst e; exact h M1 hs hd
  · have hlt := lt_of_nI (by omega) (by omega) q
    have hin : vp_in (nI i) 20 := nI_in' (by omega) (by omega)
    refine f_has (by omega) (br0 (fun hb => nx (hR _ hlt ⟨rfl, hs, ?_⟩)) (fun hb => f_setOf (eqv ⟨hin, eqv ⟨hin, ?_⟩⟩)))
    · rw [etN, if_neg (by rw [hb]; decide)]; exact hd
    · rw [pt_s_n (by omega), nI_clamp (by omega), show p + 1 + 1 = p + 2 from rfl]
      have hc2 := (hd.act (x := M1 (p + 1) 3 ||| s1 i)).age (i := i) (x := 0)
      rw [hd.1] at hc2 ⊢
      have hs2 := (hs.tr (smM.st (k := p + 1) (j := 3) (x := (etN C en i c).1 ||| s1 i) (by omega))).tr (smM.st (k := p + 2) (j := i) (x := 0) (by omega))
      refine f_act (hs2.1.chE hp hC) (by omega) (hO.s (by omega)).2.2.2.2.2.1 hc2 (fun M' hs' hc' => nx (hR _ hlt ⟨rfl, hs2.tr hs', ?_⟩))
      rw [etN, if_pos hb]
      exact hc'
/-- what a TRANSITION leaves -/
def lbF (C : pt_M) (a : Int32) (t : Nat) : Int32 := if C (65 + 2 * t) 4 = -1 then 0 else C (5 + 3 * tS C t) 7 &&& a
theorem f_leftBy {C M : pt_M} {n m p t : Nat} {Q : Int32 → pt_M → Prop} (hC : chE C M) (hO : chO C n m) (ht : t < m) (h : Q (lbF C (M (p + 1) 3) t) M) : wpX3_leftBy p (65 + 2 * t) M Q := by
  obtain ⟨hm, h30⟩ := hO.m
  obtain ⟨hn, h1, h20⟩ := hO.n
  unfold wpX3_leftBy wjX3_leftBy_35
  rw [hC (65 + 2 * t) (by omega)]
  unfold lbF at h
  refine ⟨fun q => ?_, fun q => by rw [if_pos q] at h; exact h⟩
  obtain ⟨-, ⟨eS, hS, -⟩, -⟩ := (hO.t ht).2.1 q
  rw [if_neg q] at h
  rw [eS, pt_s_n (by omega), hC (5 + 3 * tS C t) (by omega)]
  exact ⟨nI_in' (by omega) (by omega), h⟩
/-- INTO which STATES a TRANSITION goes -/
def tgF (C : pt_M) (rs : Nat → Int32) (t : Nat) : Int32 := if C (5 + 3 * tT C t) 2 = 3 ∨ C (5 + 3 * tT C t) 2 = 4 then (if rs (tT C t) = 0 then (if cP C (tT C t) = tS C t then C (5 + 3 * cP C (tT C t)) 6 else s1 (cP C (tT C t))) else rs (tT C t)) else s1 (tT C t)
theorem f_targetsOf {C M : pt_M} {n m p t : Nat} {rs : Nat → Int32} {Q : Int32 → pt_M → Prop} (hC : chE C M) (hO : chO C n m) (ht : t < m) (hto : C (65 + 2 * t) 4 ≠ -1) (hrs : ∀ s, s < 20 → M (p + 3) s = rs s) (h : Q (tgF C rs t) M) : wpX3_targetsOf p (65 + 2 * t) M Q := by
  obtain ⟨hm, h30⟩ := hO.m
  obtain ⟨hn, h1, h20⟩ := hO.n
  obtain ⟨⟨eT, hT0, hTn⟩, ⟨eS, hS, -⟩, -⟩ := (hO.t ht).2.1 hto
  have e65 : M (65 + 2 * t) = C (65 + 2 * t) := hC _ (by omega)
  unfold wpX3_targetsOf wjX3_targetsOf_97
  rw [e65, eT, pt_s_n (by omega)]
  have eI : M (5 + 3 * tT C t) = C (5 + 3 * tT C t) := hC _ (by omega)
  have hin : vp_in (nI (tT C t)) 20 := nI_in' (by omega) (by omega)
  unfold tgF at h
  refine ⟨hin, f_isMark (brp1 (fun hk => ?_) (fun hk => ?_))⟩
  · rw [eI] at hk
    rw [if_neg hk] at h
    rw [e65, eT]
    exact f_setOf h
  · rw [eI] at hk
    rw [if_pos hk] at h
    have hk0 : cK C (tT C t) ≠ 0 := fun e => by
      have e2 := (hO.k hTn (k := 0) (by omega)).mpr e
      rw [e2] at hk
      rcases hk with z | z <;> exact absurd z (by decide)
    obtain ⟨eP, hP, -⟩ := (hO.s hTn).2.1 (hO.pos hk0)
    rw [e65, eT, pt_s_n (by omega), nI_clamp (by omega), show p + 1 + 2 = p + 3 from rfl, hrs _ (by omega), eI, eP, eS]
    refine ⟨hin, fun q => ⟨hin, eqv ⟨fun z => f_setOf ?_, fun z => ⟨nI_in' (by omega) (by omega), ?_⟩⟩⟩, fun q => ⟨hin, ?_⟩⟩
    · rw [if_pos q, if_neg (fun e => z (by rw [e]))] at h; exact h
    · rw [if_pos q, if_pos (nI_inj (by omega) (by omega) z)] at h
      rw [pt_s_n (by omega), hC (5 + 3 * cP C (tT C t)) (by omega)]
      exact h
    · rw [if_neg q] at h; exact h
