/-! ===== CHOSEN TRANSITIONS ===== -/
def lsB (x : Int32) : Nat := (bcF ((x &&& -x) - 1)).toNatClampNeg
theorem f_least {x : Int32} {M : pt_M} {Q : Int32 → pt_M → Prop} (hx : x ≠ 0) (h : lsB x < 32 → bt x (lsB x) = true → Q (nI (lsB x)) M) : wpX3_smallestOf x M Q := by
  obtain ⟨t, ht, h1, h2⟩ := b_least hx
  have e : lsB x = t := by unfold lsB; rw [b_low ht h1 h2, bcF_low t ht, nI_clamp (by omega)]
  rw [e] at h
  exact f_smallestOf ht h1 h2 (h ht h1)
/-- the nearest STATE upward from a leaf that has an OPEN one -/
def nrN (C : pt_M) (op : Int32) (lf : Nat) : Nat → Option Nat
  | 0 => none
  | i + 1 => if (i = lf ∨ bt (C (5 + 3 * i) 7) lf = true) ∧ C (5 + 3 * i) 8 &&& op ≠ 0 then some (lsB (C (5 + 3 * i) 8 &&& op)) else nrN C op lf i
def oI (o : Option Nat) : Int32 := match o with | none => -1 | some t => nI t
theorem f_nearestOpen {C M : pt_M} {n m p lf : Nat} {op : Int32} {Q : Int32 → pt_M → Prop} (hC : chE C M) (hO : chO C n m) (hl : lf < n) (h : (∀ t, nrN C op lf (lf + 1) = some t → t < 32 ∧ bt op t = true) → Q (oI (nrN C op lf (lf + 1))) M) : wpX3_nearestOpen p (nI lf) op M Q := by
  obtain ⟨hn, h1, h20⟩ := hO.n
  unfold wpX3_nearestOpen
  rw [show lpX3_nearestOpen_2 p (nI lf) op Q = lpX3_nearestOpen_2 p (nI lf) op Q from rfl]
  suffices hh : ∃ k, lpX3_nearestOpen_2 p (nI lf) op Q k (nI (lf + 1) + (-1)) M by rw [nI_m1] at hh; exact hh
  refine lp_down (S := Int32 × pt_M) (lp := fun k z => lpX3_nearestOpen_2 p (nI lf) op Q k z.1 z.2) (lb := fun R z => lbX3_nearestOpen_2 p (nI lf) op Q (fun a b => R (a, b)) z.1 z.2) (fun _ _ => rfl) (fun i z => z = (nI i + (-1), M) ∧ i ≤ lf + 1 ∧ nrN C op lf i = nrN C op lf (lf + 1)) ?_ (i := lf + 1) (s := (nI (lf + 1) + (-1), M)) ⟨rfl, Nat.le_refl _, rfl⟩
  rintro i z ⟨rfl, hi, he⟩ R hR
  show lbX3_nearestOpen_2 p (nI lf) op Q (fun a b => R (a, b)) (nI i + (-1)) M
  match i, hi, he, hR with
  | 0, hi, he, hR =>
    unfold lbX3_nearestOpen_2
    rw [← he] at h
    exact ⟨fun _ => h (fun t e => by cases e), fun q => absurd (by decide) q⟩
  | i + 1, hi, he, hR =>
    rw [nI_m1]
    have hin : vp_in (nI i) 20 := nI_in' (by omega) (by omega)
    have eI : M (5 + 3 * i) = C (5 + 3 * i) := hC _ (by omega)
    have stay : ¬ ((i = lf ∨ bt (C (5 + 3 * i) 7) lf = true) ∧ C (5 + 3 * i) 8 &&& op ≠ 0) → wjX3_nearestOpen_77 p (nI lf) op Q (fun a b => R (a, b)) (nI i) M := fun q => by
      unfold wjX3_nearestOpen_77
      exact eqv (hR i _ rfl ⟨rfl, by omega, by rw [nrN, if_neg q] at he; exact he⟩)
    have go : (i = lf ∨ bt (C (5 + 3 * i) 7) lf = true) → wjX3_nearestOpen_35 p (nI lf) op Q (fun a b => R (a, b)) (nI i) 1 M := fun q => by
      unfold wjX3_nearestOpen_35
      rw [pt_s_n (by omega), eI]
      refine ⟨fun z => absurd z (by decide), fun _ => ⟨hin, fun z => stay (fun z2 => z2.2 z), fun z => ⟨hin, f_least z (fun l1 l2 => ?_)⟩⟩⟩
      have e2 : nrN C op lf (lf + 1) = some (lsB (C (5 + 3 * i) 8 &&& op)) := by rw [← he, nrN, if_pos ⟨q, z⟩]
      rw [e2] at h
      refine h (fun t e => ?_)
      cases e
      rw [b_and, Bool.and_eq_true] at l2
      exact ⟨l1, l2.2⟩
    unfold lbX3_nearestOpen_2 wjX3_nearestOpen_30
    refine ⟨fun q => absurd q (nI_pos (by omega)), fun _ => ⟨fun q => go (Or.inl (nI_inj (by omega) (by omega) q)), fun q => ⟨hin, ?_⟩⟩⟩
    rw [pt_s_n (by omega), eI]
    refine f_has (by omega) (br0 (fun hb => ?_) (fun hb => go (Or.inr hb)))
    unfold wjX3_nearestOpen_35
    refine ⟨fun _ => stay ?_, fun z => absurd rfl z⟩
    rintro ⟨z | z, -⟩
    · exact q (by rw [z])
    · rw [hb] at z; cases z
/-- the list of those taken stands in the Play -/
def isL (p : Nat) (M : pt_M) (L : List Nat) : Prop := M p 10 = nI L.length ∧ ∀ i t, L[i]? = some t → M (p + 7) i = nI t
/-- one more comes: it gives way, or those in its way do -/
def tkF (C : pt_M) (a : Int32) (L : List Nat) (t : Nat) : List Nat := if L.any (fun o => decide (lbF C a o &&& lbF C a t ≠ 0) && !bt (C (5 + 3 * tF C o) 7) (tF C t)) = true then L else L.filter (fun o => decide (lbF C a o &&& lbF C a t = 0)) ++ [t]
/-- only what is taken has changed -/
def tkM (p : Nat) (M M' : pt_M) : Prop := frM p M M' ∧ (∀ j, j ≠ 10 → M' p j = M p j) ∧ ∀ k, k ≠ p → k ≠ p + 7 → M' k = M k
theorem tkM.rf {p : Nat} {M : pt_M} : tkM p M M := ⟨frM.rf, fun _ _ => rfl, fun _ _ _ => rfl⟩
theorem tkM.tr {p : Nat} {M M1 M2 : pt_M} (h1 : tkM p M M1) (h2 : tkM p M1 M2) : tkM p M M2 := ⟨h1.1.tr h2.1, fun j hj => (h2.2.1 j hj).trans (h1.2.1 j hj), fun k a b => (h2.2.2 k a b).trans (h1.2.2 k a b)⟩
theorem tkM.st7 {p : Nat} {M : pt_M} {j : Nat} {x : Int32} : tkM p M (pt_st M (p + 7) j x) := ⟨frM.st (by omega) (by omega), fun _ _ => by rw [pt_st_o (by omega)], fun k _ h => pt_st_o h⟩
theorem tkM.st0 {p : Nat} {M : pt_M} {x : Int32} : tkM p M (pt_st M p 10 x) := ⟨frM.st (by omega) (by omega), fun _ h => st_ne h, fun k h _ => pt_st_o h⟩
theorem tkM.isC {p : Nat} {M M' : pt_M} {c : pC} (h : tkM p M M') (hc : isC p M c) : isC p M' c := by
  unfold Jvm.Pilot.CPuppetTheatreLaw_law_r8172_5dc943.isC isQ at hc ⊢
  rw [h.2.2 (p + 1) (by omega) (by omega), h.2.2 (p + 2) (by omega) (by omega), h.2.2 (p + 3) (by omega) (by omega), h.2.2 (p + 4) (by omega) (by omega), h.2.2 (p + 6) (by omega) (by omega), h.2.1 8 (by decide)]
  exact hc
theorem tkM.chE {C M M' : pt_M} {p : Nat} (h : tkM p M M') (hp : 125 ≤ p) (hC : chE C M) : chE C M' := h.1.chE hp hC
theorem tk_get {L : List Nat} {i : Nat} (h : i < L.length) : L[i]? = some (L[i]) := List.getElem?_eq_getElem h
theorem tk_take {L : List Nat} {i : Nat} (h : i < L.length) : L.take (i + 1) = L.take i ++ [L[i]] := by
  rw [List.take_succ, tk_get h]; rfl
theorem f_takeIfFree {C M : pt_M} {n m p t : Nat} {L : List Nat} {Q : pt_M → Prop} (hp : 125 ≤ p) (hC : chE C M) (hO : chO C n m) (ht : t < m) (hL : isL p M L) (hLm : ∀ o ∈ L, o < m) (hLl : L.length < 30) (h : ∀ M', tkM p M M' → isL p M' (tkF C (M (p + 1) 3) L t) → Q M') : wpX3_takeIfFree p (nI t) M Q := by
  obtain ⟨hn, h1, h20⟩ := hO.n
  obtain ⟨hm, h30⟩ := hO.m
  unfold wpX3_takeIfFree
  refine ⟨nI_in' (by omega) (by omega), ?_⟩
  rw [pt_t_n (by omega)]
  refine f_leftBy hC hO ht ?_
  obtain ⟨a, ha⟩ : ∃ a, a = M (p + 1) 3 := ⟨_, rfl⟩
  rw [← ha] at h ⊢
  have hat : ∀ (M1 : pt_M), isL p M1 L → ∀ i (hi : i < L.length), M1 (p + 7) i = nI L[i] ∧ L[i] < m := fun M1 h1 i hi => ⟨h1.2 i _ (tk_get hi), hLm _ (List.getElem_mem hi)⟩
  refine lp_up (S := Nat × Int32 × Int32 × pt_M) (lp := fun k z => lpX3_takeIfFree_19 p (nI t) Q k z.1 z.2.1 z.2.2.1 z.2.2.2) (lb := fun R z => lbX3_takeIfFree_19 p (nI t) Q (fun a b c d => R (a, b, c, d)) z.1 z.2.1 z.2.2.1 z.2.2.2) (fun _ _ => rfl) L.length (fun i z => z = (65 + 2 * t, lbF C a t, nI i, M) ∧ (L.take i).any (fun o => decide (lbF C a o &&& lbF C a t ≠ 0) && !bt (C (5 + 3 * tF C o) 7) (tF C t)) = false) ?_ (i := 0) (s := (65 + 2 * t, lbF C a t, 0, M)) (Nat.zero_le _) ⟨by rw [i0], by rw [List.take_zero]; rfl⟩
  rintro i z hi ⟨rfl, hany⟩ R hR
  show lbX3_takeIfFree_19 p (nI t) Q (fun a b c d => R (a, b, c, d)) (65 + 2 * t) (lbF C a t) (nI i) M
  unfold lbX3_takeIfFree_19 wjX3_takeIfFree_83
  rw [hL.1]
  refine ⟨fun q => ?_, fun q => ?_⟩
  · have := le_of_nI (by omega) (by omega) q
    have e : i = L.length := by omega
    subst e
    rw [List.take_length] at hany
    have eT : tkF C a L t = L.filter (fun o => decide (lbF C a o &&& lbF C a t = 0)) ++ [t] := by unfold tkF; rw [hany, if_neg (by decide)]
    rw [eT] at h
    -- the second loop: those that give way go
    refine lp_up (S := Int32 × Int32 × Int32 × pt_M) (lp := fun k z => lpX3_takeIfFree_95 p (nI t) Q k z.1 z.2.1 z.2.2.1 z.2.2.2) (lb := fun R z => lbX3_takeIfFree_95 p (nI t) Q (fun a b c d => R (a, b, c, d)) z.1 z.2.1 z.2.2.1 z.2.2.2) (fun _ _ => rfl) L.length (fun i z => z.1 = lbF C a t ∧ z.2.1 = nI ((L.take i).filter (fun o => decide (lbF C a o &&& lbF C a t = 0))).length ∧ z.2.2.1 = nI i ∧ tkM p M z.2.2.2 ∧ z.2.2.2 p 10 = nI L.length ∧ (∀ j, i ≤ j → ∀ o, L[j]? = some o → z.2.2.2 (p + 7) j = nI o) ∧ ∀ j o, ((L.take i).filter (fun o => decide (lbF C a o &&& lbF C a t = 0)))[j]? = some o → z.2.2.2 (p + 7) j = nI o) ?_ (i := 0) (s := (lbF C a t, 0, 0, M)) (Nat.zero_le _) ⟨rfl, by rw [List.take_zero]; exact i0, i0, tkM.rf, hL.1, fun j _ o e => hL.2 j o e, fun j o e => by rw [List.take_zero] at e; simp at e⟩
    rintro i ⟨x, y, z, M1⟩ hi ⟨e1, e2, e3, hs, h10, hge, hlt⟩ R hR
    dsimp only at e1 e2 e3 hs h10 hge hlt
    subst e1 e2 e3
    have hC1 := hs.chE hp hC
    have hfl : ((L.take i).filter (fun o => decide (lbF C a o &&& lbF C a t = 0))).length ≤ i := Nat.le_trans (List.length_filter_le _ _) (by rw [List.length_take]; omega)
    show lbX3_takeIfFree_95 p (nI t) Q (fun a b c d => R (a, b, c, d)) _ _ (nI i) M1
    unfold lbX3_takeIfFree_95 wjX3_takeIfFree_145
    rw [h10]
    refine ⟨fun q => ?_, fun q => ?_⟩
    · have := le_of_nI (by omega) (by omega) q
      have e : i = L.length := by omega
      subst e
      rw [List.take_length] at hfl hlt ⊢
      refine ⟨nI_in' (by omega) (by omega), eqv (eqv (h _ (hs.tr (tkM.st7.tr tkM.st0)) ⟨?_, fun j o e => ?_⟩))⟩
      · rw [st_at, nI_1, List.length_append]; rfl
      · rw [pt_st_o (show p + 7 ≠ p by omega), pt_st_k, nI_clamp (by omega)]
        rcases Nat.lt_trichotomy j (L.filter (fun o => decide (lbF C a o &&& lbF C a t = 0))).length with z | z | z
        · rw [List.getElem?_append_left z] at e
          show (if _ then _ else _) = _
          rw [if_neg (by omega)]
          exact hlt j o e
        · rw [z, List.getElem?_append_right (Nat.le_refl _), Nat.sub_self] at e
          cases e
          show (if _ then _ else _) = _
          rw [if_pos z]
        · rw [List.getElem?_eq_none (by rw [List.length_append]; show _ + 1 ≤ j; omega)] at e
          cases e
    · have hl := lt_of_nI (by omega) (by omega) q
      have hin : vp_in (nI i) 30 := nI_in' (by omega) (by omega)
      have hm1 : L[i] < m := hLm _ (List.getElem_mem hl)
      rw [nI_clamp (by omega), hge i (Nat.le_refl _) _ (tk_get hl), pt_t_n (by omega)]
      refine ⟨hin, nI_in' (by omega) (by omega), f_leftBy hC1 hO hm1 ?_⟩
      have eA : M1 (p + 1) 3 = a := by rw [hs.2.2 (p + 1) (by omega) (by omega)]; exact ha.symm
      rw [eA]
      refine ⟨fun q0 => nx (hR _ hl ⟨rfl, ?_, rfl, hs, h10, fun j hj => hge j (by omega), ?_⟩), fun q0 => ⟨hin, nI_in' (by omega) (by omega), ?_⟩⟩
      · rw [tk_take hl, List.filter_append, List.filter_cons_of_neg (by rw [decide_eq_false q0]; decide)]
        simp
      · rw [tk_take hl, List.filter_append, List.filter_cons_of_neg (by rw [decide_eq_false q0]; decide)]
        simpa using hlt
      · have hf : (L.take (i + 1)).filter (fun o => decide (lbF C a o &&& lbF C a t = 0)) = (L.take i).filter (fun o => decide (lbF C a o &&& lbF C a t = 0)) ++ [L[i]] := by
          rw [tk_take hl, List.filter_append, List.filter_cons_of_pos (by rw [decide_eq_true q0]), List.filter_nil]
        rw [nI_clamp (by omega), hge i (Nat.le_refl _) _ (tk_get hl)]
        refine eqv (eqv (nx (hR _ hl ⟨rfl, ?_, rfl, hs.tr tkM.st7, ?_, fun j hj o e => ?_, fun j o e => ?_⟩)))
        · show nI _ + 1 = nI _
          rw [hf, nI_1, List.length_append]; rfl
        · dsimp only
          rw [pt_st_o (show p ≠ p + 7 by omega)]; exact h10
        · dsimp only
          rw [pt_st_k]
          show (if _ then _ else _) = _
          rw [if_neg (by omega)]; exact hge j (by omega) o e
        · rw [hf] at e
          dsimp only
          rw [pt_st_k]
          rcases Nat.lt_trichotomy j ((L.take i).filter (fun o => decide (lbF C a o &&& lbF C a t = 0))).length with z | z | z
          · rw [List.getElem?_append_left z] at e
            show (if _ then _ else _) = _
            rw [if_neg (by omega)]
            exact hlt j o e
          · rw [z, List.getElem?_append_right (Nat.le_refl _), Nat.sub_self] at e
            cases e
            show (if _ then _ else _) = _
            rw [if_pos z]
          · rw [List.getElem?_eq_none (by rw [List.length_append]; show _ + 1 ≤ j; omega)] at e
            cases e
  · have hl := lt_of_nI (by omega) (by omega) q
    have hin : vp_in (nI i) 30 := nI_in' (by omega) (by omega)
    obtain ⟨e7, hm1⟩ := hat M hL i hl
    rw [nI_clamp (by omega), e7, pt_t_n (by omega)]
    refine ⟨hin, nI_in' (by omega) (by omega), f_leftBy hC hO hm1 ?_⟩
    rw [← ha]
    have any1 : (L.take (i + 1)).any (fun o => decide (lbF C a o &&& lbF C a t ≠ 0) && !bt (C (5 + 3 * tF C o) 7) (tF C t)) = (decide (lbF C a L[i] &&& lbF C a t ≠ 0) && !bt (C (5 + 3 * tF C L[i]) 7) (tF C t)) := by
      rw [tk_take hl, List.any_append, hany, Bool.false_or, List.any_cons, List.any_nil, Bool.or_false]
    obtain ⟨⟨eF, hF, -⟩, -⟩ := hO.t hm1
    obtain ⟨⟨eF2, hF2, -⟩, -⟩ := hO.t ht
    refine ⟨fun q0 => nx (hR _ hl ⟨rfl, ?_⟩), fun q0 => ?_⟩
    · rw [any1, decide_eq_false (fun z => z q0)]; rfl
    · rw [hC (65 + 2 * L[i]) (by omega), hC (65 + 2 * t) (by omega), eF, eF2, pt_s_n (by omega), hC (5 + 3 * tF C L[i]) (by omega)]
      refine ⟨nI_in' (by omega) (by omega), f_has (by omega) (br1 (fun hb => ?_) (fun hb => nx (hR _ hl ⟨rfl, ?_⟩)))⟩
      · refine h M tkM.rf ?_
        have : L.any (fun o => decide (lbF C a o &&& lbF C a t ≠ 0) && !bt (C (5 + 3 * tF C o) 7) (tF C t)) = true := List.any_eq_true.mpr ⟨L[i], List.getElem_mem hl, by rw [decide_eq_true q0, hb]; rfl⟩
        unfold tkF
        rw [if_pos this]
        exact hL
      · rw [any1, hb]; simp
