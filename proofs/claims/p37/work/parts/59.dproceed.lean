/-! ===== a whole call: a STEP, and it SETTLES ===== -/
theorem tkC_m {C : pt_M} {n m cs : Nat} {c : pC} (hO : chO C n m) : (∀ o ∈ tkC C n m c cs, o < m) ∧ (tkC C n m c cs).length ≤ n := by
  have hop : ∀ t, t < 32 → bt (opC C n m c cs) t = true → t < m := fun t ht hb => opF_m ht hb
  have key : ∀ i, (∀ o ∈ (chN C (opC C n m c cs) c.1 i).2, o < m) ∧ (chN C (opC C n m c cs) c.1 i).2.length ≤ i := by
    intro i
    induction i with
    | zero => exact ⟨fun o ho => by simp [chN] at ho, Nat.le_refl _⟩
    | succ i ih =>
      rw [chN]
      split
      · split
        · exact ⟨ih.1, by omega⟩
        · rename_i t e
          split
          · exact ⟨ih.1, by omega⟩
          · refine ⟨fun o ho => ?_, ?_⟩
            · rcases tkF_mem ho with z | z
              · exact ih.1 o z
              · rw [z]
                have : ∀ k, nrN C (opC C n m c cs) i k = some t → t < m := by
                  intro k
                  induction k with
                  | zero => intro e; cases e
                  | succ k ihk =>
                    intro e
                    rw [nrN] at e
                    split at e
                    · rename_i hh
                      cases e
                      obtain ⟨t, ht, h1, h2⟩ := b_least hh.2
                      have el : lsB (C (5 + 3 * k) 8 &&& opC C n m c cs) = t := by unfold lsB; rw [b_low ht h1 h2, bcF_low t ht, nI_clamp (by omega)]
                      rw [el]
                      rw [b_and, Bool.and_eq_true] at h1
                      exact hop t ht h1.2
                    · exact ihk e
                exact this _ e
            · have := tkF_len (C := C) (a := c.1) (L := (chN C (opC C n m c cs) c.1 i).2) (t := t)
              show (tkF _ _ _ _).length ≤ _
              omega
      · exact ⟨ih.1, by omega⟩
  unfold tkC
  split
  · exact ⟨fun o ho => by simp at ho, Nat.zero_le _⟩
  · exact key n
theorem acF_r {C : pt_M} {k : Nat} {c : pC} : (acF C k c).2.2.1 = c.2.2.1 := by
  unfold acF
  split
  · rfl
  · split
    · rfl
    · split
      · unfold raF; split <;> rfl
      · rfl
theorem lvN_0 {C : pt_M} : ∀ {i : Nat} {c : pC}, i ≤ 32 → lvN C 0 i c = c
  | 0, _, _ => rfl
  | i + 1, c, h => by rw [lvN, b_0, if_neg (by decide)]; exact lvN_0 (by omega)
theorem etN_0 {C : pt_M} {c : pC} : ∀ {i : Nat}, etN C 0 i c = c
  | 0 => rfl
  | i + 1 => by rw [etN, b_0, if_neg (by decide)]; exact etN_0
theorem mrN_0 {C : pt_M} {i : Nat} {c : pC} : mrN C 0 i c = c := by
  unfold mrN
  have : (fun s => if (s < i ∧ (C (5 + 3 * s) 2 = 3 ∨ C (5 + 3 * s) 2 = 4)) ∧ bt 0 (cP C s) = true then rcF C c.1 s else c.2.2.1 s) = c.2.2.1 := funext fun s => by
    rw [b_0, if_neg (fun z => absurd z.2 (by decide))]
  rw [this]
/-- where nothing is taken nothing changes -/
theorem stC_0 {C : pt_M} {n m cs : Nat} {c : pC} (hn : n ≤ 32) (h : tkC C n m c cs = []) : stC C n m c cs = c := by
  unfold stC
  split
  · rfl
  · dsimp only
    rw [h]
    show etN C 0 n (lvN C 0 n (mrN C 0 n c)) = c
    rw [mrN_0, lvN_0 hn, etN_0]
theorem qB.st {C : pt_M} {n m cs : Nat} {c : pC} (hO : chO C n m) (h : qB c) : qB (stC C n m c cs) := by
  unfold stC
  split
  · exact h
  · exact qB.et (fun s hs => (hO.s hs).2.2.2.2.2.1) (qB.do (fun t ht => (hO.t ((tkC_m hO).1 t ht)).2.2.2) (qB.lv (fun s hs => (hO.s hs).2.2.2.2.2.2) h))
theorem fiF_cat : ∀ {A B : List Nat} {f : Nat → Int32}, fiF (A ++ B) f = fiF B (fiF A f)
  | [], _, _ => rfl
  | _ :: A, _, _ => fiF_cat (A := A)
/-- what is left of a call's rounds -/
def phi (cs fs : Nat) (c : pC) : Nat := (12 - fs) * 20 + 2 * c.2.2.2.2.length + (if cs = 11 then 0 else 1)
set_option maxHeartbeats 4000000 in
theorem f_rounds {C M : pt_M} {n m p cs : Nat} {c : pC} {Q : Int32 → pt_M → Prop} {p1 : Int32} (hp : 125 ≤ p) (hC : chE C M) (hO : chO C n m) (hcs : cs < 12) (hq : qB c) (hc : isC p M c) (h : ∀ M', frM p M M' → M' p 4 = M p 4 → M' p 6 = (if (prN C n m 300 cs 0 c).2.2 = 1 then M p 6 + 1 else M p 6) → M' (p + 5) = fiF (prN C n m 300 cs 0 c).2.1 (M (p + 5)) → isC p M' (prN C n m 300 cs 0 c).1 → (prN C n m 300 cs 0 c).2.2 < 3 → Q (nI (prN C n m 300 cs 0 c).2.1.length) M') : ∃ k, lpX3_proceed_38 p p1 Q k (nI cs) 0 0 0 M := by
  obtain ⟨R0, hR0⟩ : ∃ R0, prN C n m 300 cs 0 c = R0 := ⟨_, rfl⟩
  rw [hR0] at h
  obtain ⟨hn, h1, h20⟩ := hO.n
  refine ⟨301, lp_wf (S := Int32 × Int32 × Int32 × Int32 × pt_M) (lp := fun k z => lpX3_proceed_38 p p1 Q k z.1 z.2.1 z.2.2.1 z.2.2.2.1 z.2.2.2.2) (lb := fun R z => lbX3_proceed_38 p p1 Q (fun a b c d e => R (a, b, c, d, e)) z.1 z.2.1 z.2.2.1 z.2.2.2.1 z.2.2.2.2) (fun _ _ => rfl) (fun k z => ∃ (cs1 fs r : Nat) (T : List Nat) (d : pC), z.1 = nI cs1 ∧ z.2.1 = nI T.length ∧ z.2.2.1 = nI fs ∧ z.2.2.2.1 = nI r ∧ r + k = 300 ∧ cs1 < 12 ∧ fs < 12 ∧ phi cs1 fs d < k ∧ qB d ∧ isC p z.2.2.2.2 d ∧ frM p M z.2.2.2.2 ∧ z.2.2.2.2 p 4 = M p 4 ∧ z.2.2.2.2 p 6 = M p 6 ∧ z.2.2.2.2 (p + 5) = fiF T (M (p + 5)) ∧ (R0).1 = (prN C n m k cs1 fs d).1 ∧ (R0).2.1 = T ++ (prN C n m k cs1 fs d).2.1 ∧ (R0).2.2 = (prN C n m k cs1 fs d).2.2 ∧ T.length ≤ 20 * r) ?_ 301 300 (nI cs, 0, 0, 0, M) (by omega) ⟨cs, 0, 0, [], c, rfl, i0, i0, i0, by omega, hcs, by omega, ?_, hq, hc, frM.rf, rfl, rfl, rfl, by rw [hR0], by rw [hR0]; rfl, by rw [hR0], by decide⟩⟩
  rotate_left
  · have := hc.2.2.2.2.2.1
    unfold phi
    split <;> omega
  rintro k ⟨x, y, z, w, M1⟩ ⟨cs1, fs, r, T, d, e1, e2, e3, e4, hrk, hcs1, hfs, hph, hqd, hd, hf, h4, h6, h5, p1', p2', p3', hT⟩ R hR
  dsimp only at e1 e2 e3 e4 hd hf h4 h6 h5
  subst e1 e2 e3 e4
  have hC1 := hf.chE hp hC
  obtain ⟨k, rfl⟩ : ∃ j, k = j + 1 := ⟨k - 1, by omega⟩
  show lbX3_proceed_38 p p1 Q (fun a b c d e => R (a, b, c, d, e)) (nI cs1) (nI T.length) (nI fs) (nI r) M1
  unfold lbX3_proceed_38
  refine ⟨fun q => absurd (le_of_nI (a := 1000) (by omega) (by omega) q) (by omega), fun _ => f_step hp hC1 hO hcs1 hd (fun M2 hf2 h42 h62 h52 hd2 hLm hLl => ?_)⟩
  have hlen : (T ++ tkC C n m d cs1).length ≤ 20 * (r + 1) := by rw [List.length_append]; omega
  have hC2 := hf2.chE hp hC1
  have eB : bt (nI 0) 0 = false := by decide
  rw [prN] at p1' p2' p3'
  generalize hL : tkC C n m d cs1 = L at *
  generalize hD : stC C n m d cs1 = D at *
  have hD5 := hd2.2.2.2.2
  have hqD : qB D := by rw [← hD]; exact hqd.st hO
  have body : ∀ (x1 : Int32) (f1 : Nat), x1 = nI f1 → fs + (if 0 < L.length then 1 else 0) = f1 → wjX3_proceed_70 p p1 Q (fun a b c d e => R (a, b, c, d, e)) (nI cs1) (nI T.length + nI L.length) (nI r) (nI L.length) (nI fs) (x1 - nI fs) M2 := by
    intro x1 f1 hx1 hf1
    unfold wjX3_proceed_70 wjX3_proceed_120 wjX3_proceed_143
    rw [show nI fs + (x1 - nI fs) = nI f1 by rw [hx1, Int32.add_comm, Int32.sub_add_cancel], nI_add, ← List.length_append]
    rw [hf1] at p1' p2' p3'
    have hf12 : f1 ≤ 12 := by rw [← hf1]; split <;> omega
    refine eqv (f_isAtEnd hC2 (brp0 (fun hE => ?_) (fun hE => ?_)))
    · rw [hd2.1] at hE
      rw [if_neg hE] at p1' p2' p3'
      refine ⟨fun ne => ?_, fun ee => ?_⟩
      · have ne12 : f1 ≠ 12 := fun e => ne (by rw [e]; rfl)
        rw [if_neg ne12] at p1' p2' p3'
        have step11 : (0 < L.length ∨ cs1 ≠ 11) → R (11, nI (T ++ L).length, nI f1, nI (r + 1), M2) := fun hor => by
          rw [if_pos hor] at p1' p2' p3'
          dsimp only at p1' p2' p3'
          refine hR k _ (Nat.lt_succ_self _) ⟨11, f1, r + 1, T ++ L, D, rfl, rfl, rfl, rfl, by omega, by omega, by omega, ?_, hqD, hd2, hf.tr hf2, h42.trans h4, h62.trans h6, ?_, p1', ?_, p3', hlen⟩
          · unfold phi at hph ⊢
            rw [if_pos rfl]
            by_cases hl0 : 0 < L.length
            · rw [if_pos hl0] at hf1
              have := hD5.2.1
              split at hph <;> omega
            · have hl1 : L = [] := List.length_eq_zero_iff.mp (by omega)
              rw [if_neg hl0] at hf1
              have hDd : D = d := by rw [← hD]; exact stC_0 (by omega) (hL.trans hl1)
              rw [hDd]
              have hc11 : cs1 ≠ 11 := hor.resolve_left hl0
              rw [if_neg hc11] at hph
              omega
          · dsimp only
            rw [h52, h5, ← fiF_cat]
          · rw [p2', List.append_assoc]
        refine ⟨fun q => nx (step11 (Or.inl ?_)), fun q => ⟨fun q11 => ?_, fun q11 => nx (step11 (Or.inr (fun e => q11 (by rw [e]; rfl))))⟩⟩
        · exact (nI_ltI (a := 0) (by omega) (by omega)).mp q
        · have hl0 : ¬ 0 < L.length := fun z => q ((nI_ltI (a := 0) (by omega) (by omega)).mpr z)
          have hl1 : L = [] := List.length_eq_zero_iff.mp (by omega)
          have hc11 : cs1 = 11 := nI_inj (b := 11) (by omega) (by omega) q11
          rw [if_neg (fun z => z.elim hl0 (fun z => z hc11))] at p1' p2' p3'
          rw [if_neg hl0] at hf1
          rw [hD5.1]
          refine ⟨fun qz => ?_, fun qz => ?_⟩
          · have hqe : D.2.2.2.2 = [] := by
              have := le_of_nI (b := 0) (by have := hD5.2.1; omega) (by omega) qz
              exact List.length_eq_zero_iff.mp (by omega)
            rw [hqe] at p1' p2' p3'
            dsimp only at p1' p2' p3'
            rw [p1', p2', p3'] at h
            exact h M2 (hf.tr hf2) (h42.trans h4) ((h62.trans h6).trans (by rw [if_neg (by decide)])) (by rw [h52, h5, ← fiF_cat]) hd2 (by show 2 < 3; decide)
          · match hqe : D.2.2.2.2 with
            | [] => exact absurd (show nI D.2.2.2.2.length ≤ 0 by rw [hqe]; decide) qz
            | e :: q' =>
              rw [hqe] at p1' p2' p3'
              dsimp only at p1' p2' p3'
              refine f_nextEvent hd2 hqe (fun M3 hs3 hd3 => nx ?_)
              obtain ⟨w, hw, ew⟩ := hqD e (by rw [hqe]; exact List.mem_cons_self)
              have ewc : e.toNatClampNeg = w := by rw [ew, nI_clamp (by omega)]
              rw [ewc] at p1' p2' p3'
              refine hR k _ (Nat.lt_succ_self _) ⟨w, f1, r + 1, T ++ L, (D.1, D.2.1, D.2.2.1, D.2.2.2.1, q'), ew, rfl, rfl, rfl, by omega, by omega, by omega, ?_, fun x hx => hqD x (by rw [hqe]; exact List.mem_cons_of_mem _ hx), hd3, (hf.tr hf2).tr hs3.1, (hs3.2.1.2.1.trans h42).trans h4, (hs3.2.1.2.2.1.trans h62).trans h6, ?_, p1', ?_, p3', hlen⟩
              · have hDd : D = d := by rw [← hD]; exact stC_0 (by omega) (hL.trans hl1)
                rw [hDd] at hqe
                unfold phi at hph ⊢
                rw [hqe, if_pos hc11] at hph
                rw [if_neg (show w ≠ 11 by omega)]
                have e1 : (e :: q').length = q'.length + 1 := rfl
                dsimp only
                omega
              · dsimp only
                rw [hs3.2.2.1, h52, h5, ← fiF_cat]
              · rw [p2', List.append_assoc]
      · have e12 : f1 = 12 := nI_inj (b := 12) (by omega) (by omega) ee
        rw [if_pos e12] at p1' p2' p3'
        dsimp only at p1' p2' p3'
        rw [p1', p2', p3'] at h
        refine f_loseQueue hd2 (fun M3 hs3 hd3 => eqv (h _ (((hf.tr hf2).tr hs3.1).tr (frM.st (by omega) (by omega))) ?_ ?_ ?_ (hd3.st0 (by decide)) (by decide)))
        · rw [st_ne (by decide), hs3.2.1.2.1, h42, h4]
        · rw [st_at, hs3.2.1.2.2.1, h62, h6, if_pos rfl]
        · rw [pt_st_o (show p + 5 ≠ p by omega), hs3.2.2.1, h52, h5, ← fiF_cat]
    · rw [hd2.1] at hE
      rw [if_pos hE] at p1' p2' p3'
      dsimp only at p1' p2' p3'
      rw [p1', p2', p3'] at h
      refine f_loseQueue hd2 (fun M3 hs3 hd3 => h _ ((hf.tr hf2).tr hs3.1) ?_ ?_ ?_ hd3 (by decide))
      · rw [hs3.2.1.2.1, h42, h4]
      · rw [hs3.2.1.2.2.1, h62, h6, if_neg (by decide)]
      · rw [hs3.2.2.1, h52, h5, ← fiF_cat]
  refine eqv ⟨fun q => ?_, fun q => ?_⟩
  · have := body (nI fs + 0) fs (by rw [Int32.add_zero]) (by
      have hl0 : ¬ 0 < L.length := fun z => absurd (le_of_nI (b := 0) (by omega) (by omega) q) (by omega)
      rw [if_neg hl0]; exact Nat.add_zero _)
    rw [show nI fs + 0 - nI fs = 0 by rw [Int32.add_zero, Int32.sub_self]] at this
    exact this
  · have := body (nI fs + 1) (fs + 1) (nI_1 fs) (by
      have hl0 : 0 < L.length := Nat.pos_of_ne_zero fun z => q (by rw [z]; decide)
      rw [if_pos hl0])
    rw [show nI fs + 1 - nI fs = 1 by rw [Int32.add_comm, Int32.add_sub_cancel]] at this
    exact this
/-- a call by a cause: over, or its rounds -/
def pcF (C : pt_M) (n m cs : Nat) (c : pC) : pC × List Nat × Nat := if ((C 5 5 &&& C 1 6) &&& c.1) ≠ 0 then (lqC c, [], 0) else prN C n m 300 cs 0 (if cs = 10 then glC n c else c)
theorem f_proceed {C M : pt_M} {n m p cs : Nat} {c : pC} {Q : Int32 → pt_M → Prop} (hp : 125 ≤ p) (hC : chE C M) (hO : chO C n m) (hcs : cs < 12) (hq : qB c) (hc : isC p M c) (h : ∀ M', frM p M M' → M' p 4 = (if ¬ ((C 5 5 &&& C 1 6) &&& c.1) ≠ 0 ∧ cs = 10 then M p 4 + 1 else M p 4) → M' p 6 = (if (pcF C n m cs c).2.2 = 1 then M p 6 + 1 else M p 6) → M' (p + 5) = fiF (pcF C n m cs c).2.1 (M (p + 5)) → isC p M' (pcF C n m cs c).1 → (pcF C n m cs c).2.2 < 3 → Q (nI (pcF C n m cs c).2.1.length) M') : wpX3_proceed p (nI cs) M Q := by
  obtain ⟨hn, h1, h20⟩ := hO.n
  unfold wpX3_proceed wjX3_proceed_28
  have hc0 := hc.st0 (j := 3) (x := 0) (by decide)
  have hC0 : chE C (pt_st M p 3 0) := hC.st hp
  unfold pcF at h
  refine eqv (f_isAtEnd hC0 (brp0 (fun hE => ⟨fun q => ?_, fun q => ?_⟩) (fun hE => ?_)))
  · rw [hc0.1] at hE
    have hn10 : cs ≠ 10 := fun e => q (by rw [e]; rfl)
    rw [if_neg hE, if_neg hn10, if_neg (fun z => hn10 z.2)] at h
    refine f_rounds hp hC0 hO hcs hq hc0 (fun M' hf h4 h6 h5 hc' hr => h M' ((frM.st (by omega) (by omega)).tr hf) ?_ ?_ ?_ hc' hr)
    · rw [h4, st_ne (by decide)]
    · rw [h6, st_ne (by decide)]
    · rw [h5, pt_st_o (show p + 5 ≠ p by omega)]
  · rw [hc0.1] at hE
    have e10 : cs = 10 := nI_inj (b := 10) (by omega) (by omega) q
    subst e10
    rw [if_neg hE, if_pos rfl, if_pos ⟨hE, rfl⟩] at h
    refine f_growOlder hp hC0 hO hc0 (fun M1 hf1 h41 h61 h51 hc1 => f_rounds (c := glC n c) hp (hf1.chE hp hC0) hO hcs (show qB (glC n c) from hq) hc1 (fun M' hf h4 h6 h5 hc' hr => h M' (((frM.st (by omega) (by omega)).tr hf1).tr hf) ?_ ?_ ?_ hc' hr))
    · rw [h4, h41, st_ne (by decide)]
    · rw [h6, h61, st_ne (by decide)]
    · rw [h5, h51, pt_st_o (show p + 5 ≠ p by omega)]
  · rw [hc0.1] at hE
    rw [if_pos hE, if_neg (fun z => z.1 hE)] at h
    dsimp only at h
    refine f_loseQueue hc0 (fun M1 hs1 hc1 => h M1 ((frM.st (by omega) (by omega)).tr hs1.1) ?_ ?_ ?_ hc1 (by decide))
    · rw [hs1.2.1.2.1, st_ne (by decide)]
    · rw [hs1.2.1.2.2.1, st_ne (by decide), if_neg (by decide)]
    · rw [hs1.2.2.1, pt_st_o (show p + 5 ≠ p by omega)]
      rfl
