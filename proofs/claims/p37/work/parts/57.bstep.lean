/-! ===== a STEP ===== -/
theorem lfF_app {C : pt_M} {a : Int32} {t : Nat} : ∀ {L : List Nat} {x : Int32}, lfF C a (L ++ [t]) x = lfF C a L x ||| lbF C a t
  | [], _ => rfl
  | _ :: L, _ => lfF_app (L := L)
theorem doF_app {C : pt_M} {n t : Nat} : ∀ {L : List Nat} {z : pC × Int32}, doF C n (L ++ [t]) z = (acF C (65 + 2 * t + 1) (doF C n L z).1, if C (65 + 2 * t) 4 = -1 then (doF C n L z).2 else (doF C n L z).2 ||| enF C n (tS C t) (tgF C (acF C (65 + 2 * t + 1) (doF C n L z).1).2.2.1 t))
  | [], _ => rfl
  | _ :: L, _ => doF_app (L := L)
theorem fiF_app {t : Nat} : ∀ {L : List Nat} {f : Nat → Int32}, fiF (L ++ [t]) f = upI (fiF L f) t (fiF L f t + 1)
  | [], _ => rfl
  | _ :: L, _ => fiF_app (L := L)
theorem alB_c {C : pt_M} {n t : Nat} {v w : Nat → Int32} (hT : trO C n t) (h : ∀ i, i < 4 → v i = w i) : alB C t v = alB C t w := by
  have hg := hT.2.2.1
  have e : ∀ {P : Prop}, (P → C (65 + 2 * t) 6 = 1 ∨ C (65 + 2 * t) 6 = 2 ∨ C (65 + 2 * t) 6 = 3) → P → v (C (65 + 2 * t) 7).toNatClampNeg = w (C (65 + 2 * t) 7).toNatClampNeg := fun q hp => by
    obtain ⟨k, hk, e⟩ := hg (q hp)
    rw [e, nI_clamp (by omega)]
    exact h k hk
  unfold alB
  split
  · rename_i a; rw [e Or.inl a]
  · split
    · rename_i a; rw [e (fun z => Or.inr (Or.inl z)) a]
    · split
      · rename_i a; rw [e (fun z => Or.inr (Or.inr z)) a]
      · rfl
theorem opF_c {C : pt_M} {n m : Nat} {a : Int32} {v w ag ah : Nat → Int32} {cs : Nat} (hO : chO C n m) (h : ∀ i, i < 4 → v i = w i) (h2 : ∀ s, s < 20 → ag s = ah s) : opF C n m a ag v cs = opF C n m a ah w cs := mk_congr fun t _ => by
  by_cases ht : t < m
  · have hT := hO.t ht
    have := hO.n
    unfold opB
    rw [alB_c hT h, h2 _ (by have := hT.1.2.1; omega)]
  · rw [decide_eq_false ht]
    rfl
theorem opF_m {C : pt_M} {n m : Nat} {a : Int32} {ag v : Nat → Int32} {cs t : Nat} (ht : t < 32) (h : bt (opF C n m a ag v cs) t = true) : t < m := by
  unfold opF at h
  rw [b_mk ht, Bool.and_eq_true, Bool.and_eq_true] at h
  exact of_decide_eq_true h.1.1
theorem isL.sm {p : Nat} {M M' : pt_M} {L : List Nat} (h : smM p M M') (hL : isL p M L) : isL p M' L := ⟨h.2.1.2.2.2.trans hL.1, fun i t e => by rw [h.2.2.2]; exact hL.2 i t e⟩
theorem f_step {C M : pt_M} {n m p cs : Nat} {c : pC} {Q : Int32 → pt_M → Prop} (hp : 125 ≤ p) (hC : chE C M) (hO : chO C n m) (hcs : cs < 12) (hc : isC p M c) (h : ∀ M', frM p M M' → M' p 4 = M p 4 → M' p 6 = M p 6 → M' (p + 5) = fiF (tkC C n m c cs) (M (p + 5)) → isC p M' (stC C n m c cs) → (∀ o ∈ tkC C n m c cs, o < m) → (tkC C n m c cs).length ≤ n → Q (nI (tkC C n m c cs).length) M') : wpX3_step p (nI cs) M Q := by
  obtain ⟨hn, h1, h20⟩ := hO.n
  obtain ⟨hm, h30⟩ := hO.m
  unfold wpX3_step
  refine f_openBy hC hO hcs ?_
  have eop : opF C n m (M (p + 1) 3) (M (p + 2)) (M (p + 4)) cs = opC C n m c cs := by rw [hc.1]; exact opF_c hO hc.2.2.2.1 hc.2.1
  rw [eop]
  unfold tkC stC at h
  have hopm : ∀ t, t < 32 → bt (opC C n m c cs) t = true → t < m := fun t ht hb => opF_m ht hb
  refine ⟨fun q => f_choose hp hC hO hopm (fun M1 hs1 hL1 hLm hLl => ?_), fun q => ?_⟩
  rotate_left
  · rw [if_pos q, if_pos q] at h
    exact h M frM.rf rfl rfl rfl hc (fun o ho => by simp at ho) (Nat.zero_le _)
  rw [if_neg q, if_neg q] at h
  rw [hc.1] at hL1 hLm hLl
  have eT : tkC C n m c cs = (chN C (opC C n m c cs) c.1 n).2 := by unfold tkC; rw [if_neg q]
  dsimp only at h
  rw [eT] at h
  generalize (chN C (opC C n m c cs) c.1 n).2 = L at h hL1 hLm hLl
  have hc1 : isC p M1 c := hs1.isC hc
  have hC1 := hs1.chE hp hC
  refine lp_up (S := Int32 × Int32 × pt_M) (lp := fun k z => lpX3_step_22 p (nI cs) Q k z.1 z.2.1 z.2.2) (lb := fun R z => lbX3_step_22 p (nI cs) Q (fun a b c => R (a, b, c)) z.1 z.2.1 z.2.2) (fun _ _ => rfl) L.length (fun i z => z = (lfF C c.1 (L.take i) 0, nI i, M1)) ?_ (i := 0) (s := (0, 0, M1)) (Nat.zero_le _) (by rw [i0, List.take_zero]; rfl)
  rintro i z hi rfl R hR
  show lbX3_step_22 p (nI cs) Q (fun a b c => R (a, b, c)) _ (nI i) M1
  unfold lbX3_step_22
  rw [hL1.1]
  refine ⟨fun q => ?_, fun q => ?_⟩
  rotate_left
  · have hl := lt_of_nI (by omega) (by omega) q
    have hin : vp_in (nI i) 30 := nI_in' (by omega) (by omega)
    have hm1 := (hLm _ (List.getElem_mem hl)).1
    rw [nI_clamp (by omega), hL1.2 i _ (tk_get hl), pt_t_n (by omega)]
    refine ⟨hin, nI_in' (by omega) (by omega), f_leftBy hC1 hO hm1 (eqv (nx (hR _ hl ?_)))⟩
    rw [hc1.1, tk_take hl, lfF_app]
  have := le_of_nI (by omega) (by omega) q
  have e : i = L.length := by omega
  subst e
  rw [List.take_length]
  refine f_makeRecords hp hC1 hO hc1 (fun M2 hs2 hc2 => f_leave hp (hs2.1.chE hp hC1) hO hc2 (fun M3 hs3 hc3 => ?_))
  have hs13 := hs2.tr hs3
  have hL3 : isL p M3 L := hL1.sm hs13
  have hC3 := hs13.1.chE hp hC1
  refine lp_up (S := Int32 × Int32 × pt_M) (lp := fun k z => lpX3_step_75 p (nI cs) Q k z.1 z.2.1 z.2.2) (lb := fun R z => lbX3_step_75 p (nI cs) Q (fun a b c => R (a, b, c)) z.1 z.2.1 z.2.2) (fun _ _ => rfl) L.length (fun i z => z.1 = (doF C n (L.take i) (lvN C (lfF C c.1 L 0) n (mrN C (lfF C c.1 L 0) n c), 0)).2 ∧ z.2.1 = nI i ∧ frM p M z.2.2 ∧ z.2.2 p 4 = M p 4 ∧ z.2.2 p 6 = M p 6 ∧ z.2.2 (p + 5) = fiF (L.take i) (M (p + 5)) ∧ isL p z.2.2 L ∧ isC p z.2.2 (doF C n (L.take i) (lvN C (lfF C c.1 L 0) n (mrN C (lfF C c.1 L 0) n c), 0)).1) ?_ (i := 0) (s := (0, 0, M3)) (Nat.zero_le _) ⟨by rw [List.take_zero]; rfl, i0, hs1.1.tr hs13.1, hs13.2.1.2.1.trans (hs1.2.1 4 (by decide)), hs13.2.1.2.2.1.trans (hs1.2.1 6 (by decide)), by rw [List.take_zero]; exact hs13.2.2.1.trans (hs1.2.2 (p + 5) (by omega) (by omega)), hL3, by rw [List.take_zero]; exact hc3⟩
  clear hC3 hL3 hs13 hs2 hs3 hc2 hc3 hL1 hc1 hC1 hs1
  rintro i ⟨x, y, M1⟩ hi ⟨e1, e2, hf, h4, h6, h5, hL1, hc1⟩ R hR
  dsimp only at e1 e2 hf h4 h6 h5 hL1 hc1
  subst e1 e2
  have hC1 := hf.chE hp hC
  show lbX3_step_75 p (nI cs) Q (fun a b c => R (a, b, c)) _ (nI i) M1
  unfold lbX3_step_75
  rw [hL1.1]
  refine ⟨fun q => ?_, fun q => ?_⟩
  · have := le_of_nI (by omega) (by omega) q
    have e : i = L.length := by omega
    subst e
    rw [List.take_length] at hc1 h5 ⊢
    refine f_enter hp hC1 hO hc1 (fun M4 hs4 hc4 => ?_)
    rw [hs4.2.1.2.2.2, hL1.1]
    exact h M4 (hf.tr hs4.1) (hs4.2.1.2.1.trans h4) (hs4.2.1.2.2.1.trans h6) (hs4.2.2.1.trans h5) hc4 (fun o ho => (hLm o ho).1) hLl
  · have hl := lt_of_nI (by omega) (by omega) q
    have hin : vp_in (nI i) 30 := nI_in' (by omega) (by omega)
    have hm1 := (hLm _ (List.getElem_mem hl)).1
    have hin2 : vp_in (nI L[i]) 30 := nI_in' (by omega) (by omega)
    rw [nI_clamp (by omega), hL1.2 i _ (tk_get hl), pt_t_n (by omega)]
    refine ⟨hin, hin2, f_act hC1 (by omega) (hO.t hm1).2.2.2 hc1 (fun M2 hs2 hc2 => ?_)⟩
    have hL2 := hL1.sm hs2
    have hC2 := hs2.1.chE hp hC1
    have fin : ∀ en : Int32, en = (doF C n (L.take (i + 1)) (lvN C (lfF C c.1 L 0) n (mrN C (lfF C c.1 L 0) n c), 0)).2 → wjX3_step_142 p (nI cs) Q (fun a b c => R (a, b, c)) en (nI i) M2 := fun en hen => by
      unfold wjX3_step_142
      rw [nI_clamp (by omega), hL2.2 i _ (tk_get hl), nI_clamp (by omega)]
      refine ⟨hin, hin2, hin2, eqv ⟨hin, ?_⟩⟩
      rw [pt_st_o (show p + 7 ≠ p + 5 by omega), hL2.2 i _ (tk_get hl)]
      refine f_setOf (eqv (nx (hR _ hl ⟨hen, rfl, ((hf.tr hs2.1).tr (frM.st (by omega) (by omega))).tr (frM.st (by omega) (by omega)), ?_, ?_, ?_, ⟨?_, fun j t e => ?_⟩, ?_⟩)))
      · dsimp only
        rw [st_ne (by decide), pt_st_o (show p ≠ p + 5 by omega), hs2.2.1.2.1]; exact h4
      · dsimp only
        rw [st_ne (by decide), pt_st_o (show p ≠ p + 5 by omega), hs2.2.1.2.2.1]; exact h6
      · dsimp only
        rw [pt_st_o (show p + 5 ≠ p by omega), pt_st_k, hs2.2.2.1, h5, tk_take hl, fiF_app]
        rfl
      · dsimp only
        rw [st_ne (by decide), pt_st_o (show p ≠ p + 5 by omega)]; exact hL2.1
      · dsimp only
        rw [pt_st_o (show p + 7 ≠ p by omega), pt_st_o (show p + 7 ≠ p + 5 by omega)]; exact hL2.2 j t e
      · dsimp only
        refine (isC.st57 ?_ (Or.inl rfl)).st0 (by decide)
        rw [tk_take hl, doF_app]
        exact hc2
    have e65 : M2 (65 + 2 * L[i]) = C (65 + 2 * L[i]) := hC2 _ (by omega)
    rw [e65]
    refine ⟨fun q => fin _ ?_, fun q => ?_⟩
    · rw [tk_take hl, doF_app]
      dsimp only
      rw [if_pos q]
    · refine f_targetsOf hC2 hO hm1 q hc2.2.2.1 ?_
      obtain ⟨-, ⟨eS, hS, -⟩, -⟩ := (hO.t hm1).2.1 q
      rw [e65, eS]
      refine f_enteredInto hC2 hn h20 hS (eqv (fin _ ?_))
      rw [tk_take hl, doF_app]
      dsimp only
      rw [if_neg q]
