/-! ===== the search for a row ===== -/
theorem f_isSameAs {k0 k1 : Nat} {M : pt_M} {Q : Int32 → pt_M → Prop} (h0 : Q 0 M) (h1 : Q 1 M) : wpX4_isSameAs k0 k1 M Q := by
  unfold wpX4_isSameAs
  refine ⟨fun _ => ?_, fun _ => h0⟩
  refine lp_up (S := Int32 × pt_M) (lp := fun k z => lpX4_isSameAs_15 k0 k1 Q k z.1 z.2) (lb := fun R z => lbX4_isSameAs_15 k0 k1 Q (fun a b => R (a, b)) z.1 z.2) (fun _ _ => rfl) 4 (fun i z => z = (nI i, M)) ?_ (i := 0) (s := (0, M)) (Nat.zero_le _) (by rw [i0])
  rintro i z hi rfl R hR
  show lbX4_isSameAs_15 k0 k1 Q (fun a b => R (a, b)) (nI i) M
  unfold lbX4_isSameAs_15
  refine ⟨fun _ => ?_, fun q => ?_⟩
  · refine lp_up (S := Int32 × pt_M) (lp := fun k z => lpX4_isSameAs_49 k0 k1 Q k z.1 z.2) (lb := fun R z => lbX4_isSameAs_49 k0 k1 Q (fun a b => R (a, b)) z.1 z.2) (fun _ _ => rfl) 20 (fun i z => z = (nI i, M)) ?_ (i := 0) (s := (0, M)) (Nat.zero_le _) (by rw [i0])
    rintro i z hi rfl R hR
    show lbX4_isSameAs_49 k0 k1 Q (fun a b => R (a, b)) (nI i) M
    unfold lbX4_isSameAs_49 wjX4_isSameAs_98
    refine ⟨fun _ => h1, fun q => ?_⟩
    have hl := lt_of_nI (a := 20) (by omega) (by omega) q
    have hin := nI_in' (c := i) (N := 20) hl (by omega)
    exact ⟨hin, eqv ⟨hin, eqv ⟨fun _ => h0, fun _ => ⟨hin, hin, fun _ => nx (hR _ hl rfl), fun _ => h0⟩⟩⟩⟩
  · have hl := lt_of_nI (a := 4) (by omega) (by omega) q
    have hin := nI_in' (c := i) (N := 4) hl (by omega)
    exact ⟨hin, hin, fun _ => nx (hR _ hl rfl), fun _ => h0⟩
section
variable {C : pt_M} {n m : Nat}
/-- the core behind some calls -/
def rnC (C : pt_M) (n m : Nat) : List Nat → pC → pC
  | [], c => c
  | e :: L, c => rnC C n m L (pcF C n m e (lqC c)).1
theorem rnC_app {e : Nat} : ∀ {L : List Nat} {c : pC}, rnC C n m (L ++ [e]) c = (pcF C n m e (lqC (rnC C n m L c))).1
  | [], _ => rfl
  | _ :: L, _ => rnC_app (L := L)
/-- the SITUATIONS found: each is the core behind its calls -/
def lkI (C : pt_M) (n m : Nat) (c : pC) (P : Nat → List Nat) (k : Nat) (M : pt_M) (i : Nat) : Prop := isS (147 + 4 * i) M (rnC C n m (P i) c) ∧ (P i).length ≤ 2 ∧ (∀ e ∈ P i, e ≤ 10) ∧ M 146 i = nI (P i).length ∧ (P i = [] ∨ ∃ j e, j < k ∧ e ≤ 10 ∧ P i = P j ++ [e] ∧ M 144 i = nI j ∧ M 145 i = nI e)
def lkO (C : pt_M) (n m : Nat) (c : pC) (P : Nat → List Nat) (k : Nat) (M : pt_M) : Prop := M 141 8 = nI k ∧ 1 ≤ k ∧ k ≤ 60 ∧ M 141 1 = 0 ∧ ∀ i, i < k → lkI C n m c P k M i
/-- the engine itself and the chart stand as they were -/
def lkE (M0 M : pt_M) : Prop := (∀ x, x < 133 → M x = M0 x) ∧ isQ 133 M []
theorem lkE.st {M0 M : pt_M} {k j : Nat} {x : Int32} (h : lkE M0 M) (hk : 140 < k) : lkE M0 (pt_st M k j x) := ⟨fun a ha => by rw [pt_st_o (by omega)]; exact h.1 a ha, by
  obtain ⟨h1, h2, h3⟩ := h.2
  exact ⟨by rw [pt_st_o (by omega)]; exact h1, h2, fun i y e => by rw [pt_st_o (by omega)]; exact h3 i y e⟩⟩
theorem isS.st {M : pt_M} {k a j : Nat} {x : Int32} {c : pC} (h : isS k M c) (ha : a < k ∨ k + 3 < a) : isS k (pt_st M a j x) c := h.same (pt_st_o (by omega)) (pt_st_o (by omega)) (pt_st_o (by omega)) (pt_st_o (by omega))
theorem lkO.fr {c : pC} {P : Nat → List Nat} {k : Nat} {M M' : pt_M} (h : lkO C n m c P k M) (hf : ∀ x, 140 < x → M' x = M x) : lkO C n m c P k M' := by
  obtain ⟨h1, h2, h3, h4, h5⟩ := h
  refine ⟨by rw [hf _ (by omega)]; exact h1, h2, h3, by rw [hf _ (by omega)]; exact h4, fun i hi => ?_⟩
  obtain ⟨a, b, d, e, f⟩ := h5 i hi
  refine ⟨a.same (hf _ (by omega)) (hf _ (by omega)) (hf _ (by omega)) (hf _ (by omega)), b, d, by rw [hf _ (by omega)]; exact e, ?_⟩
  rw [hf 144 (by omega), hf 145 (by omega)]; exact f
def updP (P : Nat → List Nat) (k : Nat) (L : List Nat) : Nat → List Nat := fun i => if i = k then L else P i
theorem f_keepIfNew {M0 M : pt_M} {c : pC} {P : Nat → List Nat} {k i e : Nat} {Q : pt_M → Prop} (hE : lkE M0 M) (hL : lkO C n m c P k M) (hi : i < k) (he : e ≤ 10) (hl : (P i).length < 2) (hT : isS 134 M (rnC C n m (P i ++ [e]) c)) (h : ∀ M' P' k', lkE M0 M' → lkO C n m c P' k' M' → k ≤ k' → (∀ j, j < k → P' j = P j) → M' 146 i = M 146 i → Q M') : wpX2_keepIfNew (nI i) (nI e) M Q := by
  obtain ⟨h1, h2, h3, h4, h5⟩ := hL
  have hsame : Q M := h M P k hE ⟨h1, h2, h3, h4, h5⟩ (Nat.le_refl _) (fun _ _ => rfl) rfl
  unfold wpX2_keepIfNew
  rw [h1]
  refine ⟨fun q => ?_, fun _ => hsame⟩
  have hk60 : k < 60 := (nI_ltI (by omega) (b := 60) (by omega)).mp q
  refine lp_up (S := Int32 × pt_M) (lp := fun k z => lpX2_keepIfNew_15 (nI i) (nI e) Q k z.1 z.2) (lb := fun R z => lbX2_keepIfNew_15 (nI i) (nI e) Q (fun a b => R (a, b)) z.1 z.2) (fun _ _ => rfl) k (fun j z => z = (nI j, M)) ?_ (i := 0) (s := (0, M)) (Nat.zero_le _) (by rw [i0])
  rintro j z hj rfl R hR
  show lbX2_keepIfNew_15 (nI i) (nI e) Q (fun a b => R (a, b)) (nI j) M
  unfold lbX2_keepIfNew_15
  rw [h1]
  refine ⟨fun q => ?_, fun q => ?_⟩
  · have hin := nI_in' (c := k) (N := 60) hk60 (by omega)
    refine ⟨hin, f_copyFrom (c := rnC C n m (P i ++ [e]) c) (by rw [pt_q_n (by omega)]; omega) hT ?_⟩
    rw [pt_q_n (by omega)]
    intro M1 f1 s1
    have e1 : M1 141 8 = nI k := by rw [f1 _ (by omega)]; exact h1
    have hE1 : lkE M0 M1 := ⟨fun x hx => by rw [f1 _ (by omega)]; exact hE.1 x hx, by
      obtain ⟨a, b, d⟩ := hE.2
      exact ⟨by rw [f1 _ (by omega)]; exact a, b, fun i y e => by rw [f1 _ (by omega)]; exact d i y e⟩⟩
    rw [e1, nI_clamp (by omega)]
    refine ⟨hin, eqv ?_⟩
    have e2 : pt_st M1 144 k (nI i) 141 8 = nI k := by rw [pt_st_o (by omega)]; exact e1
    rw [e2, nI_clamp (by omega)]
    refine ⟨hin, eqv ?_⟩
    have e3 : pt_st (pt_st M1 144 k (nI i)) 145 k (nI e) 141 8 = nI k := by rw [pt_st_o (by omega)]; exact e2
    have e4 : pt_st (pt_st M1 144 k (nI i)) 145 k (nI e) 146 i = nI (P i).length := by rw [pt_st_o (by omega), pt_st_o (by omega), f1 _ (by omega)]; exact (h5 i hi).2.2.2.1
    rw [e3, nI_clamp (by omega), nI_clamp (by omega), e4, nI_s1]
    refine ⟨nI_in' (by omega) (by omega), hin, eqv ?_⟩
    have e5 : pt_st (pt_st (pt_st M1 144 k (nI i)) 145 k (nI e)) 146 k (nI ((P i).length + 1)) 141 8 = nI k := by rw [pt_st_o (by omega)]; exact e3
    rw [e5, nI_s1]
    refine eqv (h _ (updP P k (P i ++ [e])) (k + 1) ((((hE1.st (by omega)).st (by omega)).st (by omega)).st (by omega)) ⟨st_at, by omega, by omega, ?_, fun j hj' => ?_⟩ (by omega) (fun j hj => if_neg (by omega)) ?_)
    · rw [st_ne (by omega), pt_st_o (by omega), pt_st_o (by omega), pt_st_o (by omega), f1 _ (by omega)]; exact h4
    · unfold lkI
      have q146 : pt_st (pt_st (pt_st (pt_st M1 144 k (nI i)) 145 k (nI e)) 146 k (nI ((P i).length + 1))) 141 8 (nI (k + 1)) 146 j = pt_st (pt_st (pt_st M1 144 k (nI i)) 145 k (nI e)) 146 k (nI ((P i).length + 1)) 146 j := by rw [pt_st_o (by omega)]
      have q144 : pt_st (pt_st (pt_st (pt_st M1 144 k (nI i)) 145 k (nI e)) 146 k (nI ((P i).length + 1))) 141 8 (nI (k + 1)) 144 j = pt_st M1 144 k (nI i) 144 j := by rw [pt_st_o (by omega), pt_st_o (by omega), pt_st_o (by omega)]
      have q145 : pt_st (pt_st (pt_st (pt_st M1 144 k (nI i)) 145 k (nI e)) 146 k (nI ((P i).length + 1))) 141 8 (nI (k + 1)) 145 j = pt_st (pt_st M1 144 k (nI i)) 145 k (nI e) 145 j := by rw [pt_st_o (by omega), pt_st_o (by omega)]
      rw [q146, q144, q145]
      by_cases ej : j = k
      · subst ej
        have eP : updP P j (P i ++ [e]) j = P i ++ [e] := if_pos rfl
        rw [eP]
        refine ⟨(((s1.st (by omega)).st (by omega)).st (by omega)).st (by omega), by rw [List.length_append]; show _ + 1 ≤ 2; omega, fun x hx => ?_, ?_, Or.inr ⟨i, e, by omega, he, ?_, st_at, st_at⟩⟩
        · rcases List.mem_append.mp hx with z | z
          · exact (h5 i hi).2.2.1 x z
          · rcases List.mem_singleton.mp z with rfl; exact he
        · rw [st_at, List.length_append]; rfl
        · unfold updP
          rw [if_neg (by omega)]
      · have hjk : j < k := by omega
        have eP : updP P k (P i ++ [e]) j = P j := if_neg ej
        obtain ⟨a, b, d, f, g⟩ := h5 j hjk
        rw [eP]
        refine ⟨((((a.same (f1 _ (by omega)) (f1 _ (by omega)) (f1 _ (by omega)) (f1 _ (by omega))).st (by omega)).st (by omega)).st (by omega)).st (by omega), b, d, ?_, ?_⟩
        · rw [st_ne ej, pt_st_o (by omega), pt_st_o (by omega), f1 _ (by omega)]; exact f
        · rcases g with g | ⟨u, v, g1, g2, g3, g4, g5⟩
          · exact Or.inl g
          · refine Or.inr ⟨u, v, by omega, g2, ?_, ?_, ?_⟩
            · unfold updP
              rw [if_neg (by omega)]; exact g3
            · rw [st_ne ej, f1 _ (by omega)]; exact g4
            · rw [st_ne ej, pt_st_o (by omega), f1 _ (by omega)]; exact g5
    · rw [pt_st_o (by omega), st_ne (by omega), pt_st_o (by omega), pt_st_o (by omega), f1 _ (by omega)]
  · have hl := lt_of_nI (by omega) (by omega) q
    exact ⟨nI_in' (by omega) (by omega), f_isSameAs ⟨fun _ => nx (hR _ hl rfl), fun z => absurd rfl z⟩ ⟨fun z => absurd z (by decide), fun _ => hsame⟩⟩
/-- what a row told means -/
def rowO (L : List Nat) (M : pt_M) : Prop := M 141 1 = nI L.length ∧ ∀ i e, L[i]? = some e → M 142 i = nI e
theorem f_writeRow {M0 M : pt_M} {c : pC} {P : Nat → List Nat} {k i e : Nat} {Q : pt_M → Prop} (hE : lkE M0 M) (hL : lkO C n m c P k M) (hi : i < k) (he : e ≤ 10) (hl : (P i).length < 2) (h : ∀ M', lkE M0 M' → rowO (P i ++ [e]) M' → Q M') : wpX2_writeRow (nI i) (nI e) M Q := by
  obtain ⟨h1, h2, h3, h4, h5⟩ := hL
  obtain ⟨a, b, d, f, g⟩ := h5 i hi
  unfold wpX2_writeRow
  rw [nI_clamp (by omega), f, nI_s1]
  refine ⟨nI_in' (by omega) (by omega), eqv ?_⟩
  rw [st_at, nI_pred, nI_clamp (by omega)]
  refine ⟨nI_in' (by omega) (by omega), eqv ?_⟩
  have e1 : pt_st (pt_st M 141 1 (nI ((P i).length + 1))) 142 (P i).length (nI e) 141 1 = nI ((P i).length + 1) := by rw [pt_st_o (by omega), st_at]
  rw [e1]
  refine eqv ?_
  have hE1 := (hE.st (k := 141) (j := 1) (x := nI ((P i).length + 1)) (by omega)).st (k := 142) (j := (P i).length) (x := nI e) (by omega)
  rcases Nat.lt_or_ge 0 (P i).length with z | z
  · have z1 : (P i).length = 1 := by omega
    rcases g with g | ⟨u, v, g1, g2, g3, g4, g5⟩
    · rw [g] at z; exact absurd z (Nat.lt_irrefl _)
    · have hu : P u = [] := by
        rw [g3, List.length_append] at z1
        exact List.eq_nil_of_length_eq_zero (Nat.succ.inj z1)
      rw [hu, List.nil_append] at g3
      rw [z1, show nI (1 + 1) - 2 = nI 0 from by decide]
      rw [z1] at hE1 e1
      refine ⟨2, ?_⟩
      show lbX2_writeRow_34 (nI i) (nI e) Q (lpX2_writeRow_34 (nI i) (nI e) Q 1) (nI i) (nI 0) _
      unfold lbX2_writeRow_34
      rw [nI_clamp (by omega), nI_clamp (by omega)]
      refine ⟨fun q => absurd q (nI_pos (by omega)), fun _ => ⟨nI_in' (by omega) (by omega), nI_in' (by omega) (by omega), eqv ⟨nI_in' (by omega) (by omega), eqv (eqv ?_)⟩⟩⟩
      show lbX2_writeRow_34 (nI i) (nI e) Q (lpX2_writeRow_34 (nI i) (nI e) Q 0) _ (-1) _
      unfold lbX2_writeRow_34
      refine ⟨fun _ => h _ (hE1.st (by omega)) ⟨?_, ?_⟩, fun q => absurd (by decide) q⟩
      · rw [pt_st_o (by omega), e1, g3]; rfl
      · intro j x hx
        rw [g3] at hx
        match j, hx with
        | 0, hx =>
          rw [st_at, pt_st_o (by omega), pt_st_o (by omega), g5]
          cases hx; rfl
        | 1, hx =>
          rw [st_ne (by omega), st_at]
          cases hx; rfl
        | j + 2, hx => cases hx
  · have z0 : P i = [] := List.eq_nil_of_length_eq_zero (by omega)
    have z1 : (P i).length = 0 := by rw [z0]; rfl
    rw [z1, show nI (0 + 1) - 2 = -1 from by decide]
    rw [z1] at hE1 e1
    refine ⟨1, ?_⟩
    show lbX2_writeRow_34 (nI i) (nI e) Q (lpX2_writeRow_34 (nI i) (nI e) Q 0) (nI i) (-1) _
    unfold lbX2_writeRow_34
    refine ⟨fun _ => h _ hE1 ⟨?_, ?_⟩, fun q => absurd (by decide) q⟩
    · rw [e1, z0]; rfl
    · intro j x hx
      rw [z0] at hx
      match j, hx with
      | 0, hx => rw [st_at]; cases hx; rfl
      | j + 1, hx => cases hx
end
