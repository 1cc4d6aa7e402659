/-! ===== what a Play does: its core (ACTIVE, AGES, RECORDS, variables, QUEUE) and what else it changes ===== -/
abbrev pC := Int32 × (Nat → Int32) × (Nat → Int32) × (Nat → Int32) × List Int32
def isQ (p : Nat) (M : pt_M) (q : List Int32) : Prop := M p 8 = nI q.length ∧ q.length ≤ 8 ∧ ∀ i x, q[i]? = some x → M (p + 6) i = x
def isC (p : Nat) (M : pt_M) (c : pC) : Prop := M (p + 1) 3 = c.1 ∧ (∀ s, s < 20 → M (p + 2) s = c.2.1 s) ∧ (∀ s, s < 20 → M (p + 3) s = c.2.2.1 s) ∧ (∀ v, v < 4 → M (p + 4) v = c.2.2.2.1 v) ∧ isQ p M c.2.2.2.2
/-- only the Play at p has changed -/
def frM (p : Nat) (M M' : pt_M) : Prop := ∀ k, (k < p ∨ p + 7 < k) → M' k = M k
/-- .. and of it neither its counts nor what is taken -/
def smM (p : Nat) (M M' : pt_M) : Prop := frM p M M' ∧ (M' p 3 = M p 3 ∧ M' p 4 = M p 4 ∧ M' p 6 = M p 6 ∧ M' p 10 = M p 10) ∧ M' (p + 5) = M (p + 5) ∧ M' (p + 7) = M (p + 7)
theorem frM.rf {p : Nat} {M : pt_M} : frM p M M := fun _ _ => rfl
theorem frM.tr {p : Nat} {M M1 M2 : pt_M} (h1 : frM p M M1) (h2 : frM p M1 M2) : frM p M M2 := fun k hk => (h2 k hk).trans (h1 k hk)
theorem frM.st {p : Nat} {M : pt_M} {k j : Nat} {x : Int32} (h1 : p ≤ k) (h2 : k ≤ p + 7) : frM p M (pt_st M k j x) := fun a ha => pt_st_o (by omega)
theorem smM.rf {p : Nat} {M : pt_M} : smM p M M := ⟨frM.rf, ⟨rfl, rfl, rfl, rfl⟩, rfl, rfl⟩
theorem smM.tr {p : Nat} {M M1 M2 : pt_M} (h1 : smM p M M1) (h2 : smM p M1 M2) : smM p M M2 := ⟨h1.1.tr h2.1, ⟨h2.2.1.1.trans h1.2.1.1, h2.2.1.2.1.trans h1.2.1.2.1, h2.2.1.2.2.1.trans h1.2.1.2.2.1, h2.2.1.2.2.2.trans h1.2.1.2.2.2⟩, h2.2.2.1.trans h1.2.2.1, h2.2.2.2.trans h1.2.2.2⟩
theorem frM.chE {C M M' : pt_M} {p : Nat} (h : frM p M M') (hp : 125 ≤ p) (hC : chE C M) : chE C M' := fun k hk => (h k (Or.inl (by omega))).trans (hC k hk)
theorem st_at {M : pt_M} {k j : Nat} {x : Int32} : pt_st M k j x k j = x := by rw [pt_st_k]; exact if_pos rfl
theorem st_ne {M : pt_M} {k j i : Nat} {x : Int32} (h : i ≠ j) : pt_st M k j x k i = M k i := by rw [pt_st_k]; exact if_neg h
/-- a write in the Situation or the QUEUE -/
theorem smM.st {p : Nat} {M : pt_M} {k j : Nat} {x : Int32} (h : k = p + 1 ∨ k = p + 2 ∨ k = p + 3 ∨ k = p + 4 ∨ k = p + 6) : smM p M (pt_st M k j x) := by
  refine ⟨frM.st (by omega) (by omega), ?_, pt_st_o (by omega), pt_st_o (by omega)⟩
  rw [pt_st_o (show p ≠ k by omega)]
  exact ⟨rfl, rfl, rfl, rfl⟩
theorem smM.st0 {p : Nat} {M : pt_M} {j : Nat} {x : Int32} (h : j = 5 ∨ j = 8) : smM p M (pt_st M p j x) := by
  refine ⟨frM.st (by omega) (by omega), ⟨st_ne (by omega), st_ne (by omega), st_ne (by omega), st_ne (by omega)⟩, pt_st_o (by omega), pt_st_o (by omega)⟩
def upI (f : Nat → Int32) (i : Nat) (x : Int32) : Nat → Int32 := fun j => if j = i then x else f j
/-- isC under writes elsewhere -/
theorem isC.st0 {p : Nat} {M : pt_M} {c : pC} {j : Nat} {x : Int32} (h : isC p M c) (hj : j ≠ 8) : isC p (pt_st M p j x) c := by
  unfold isC isQ at h ⊢
  rw [pt_st_o (show p + 1 ≠ p by omega), pt_st_o (show p + 2 ≠ p by omega), pt_st_o (show p + 3 ≠ p by omega), pt_st_o (show p + 4 ≠ p by omega), pt_st_o (show p + 6 ≠ p by omega), st_ne (Ne.symm hj)]
  exact h
theorem isC.st57 {p : Nat} {M : pt_M} {c : pC} {k j : Nat} {x : Int32} (h : isC p M c) (hk : k = p + 5 ∨ k = p + 7) : isC p (pt_st M k j x) c := by
  unfold isC isQ at h ⊢
  rw [pt_st_o (show p + 1 ≠ k by omega), pt_st_o (show p + 2 ≠ k by omega), pt_st_o (show p + 3 ≠ k by omega), pt_st_o (show p + 4 ≠ k by omega), pt_st_o (show p + 6 ≠ k by omega), pt_st_o (show p ≠ k by omega)]
  exact h
theorem isC.act {p : Nat} {M : pt_M} {c : pC} {x : Int32} (h : isC p M c) : isC p (pt_st M (p + 1) 3 x) (x, c.2) := by
  unfold isC isQ at h ⊢
  rw [st_at, pt_st_o (show p + 2 ≠ p + 1 by omega), pt_st_o (show p + 3 ≠ p + 1 by omega), pt_st_o (show p + 4 ≠ p + 1 by omega), pt_st_o (show p + 6 ≠ p + 1 by omega), pt_st_o (show p ≠ p + 1 by omega)]
  exact ⟨rfl, h.2⟩
theorem isC.age {p : Nat} {M : pt_M} {c : pC} {i : Nat} {x : Int32} (h : isC p M c) : isC p (pt_st M (p + 2) i x) (c.1, upI c.2.1 i x, c.2.2) := by
  unfold isC isQ at h ⊢
  rw [pt_st_o (show p + 1 ≠ p + 2 by omega), pt_st_k, pt_st_o (show p + 3 ≠ p + 2 by omega), pt_st_o (show p + 4 ≠ p + 2 by omega), pt_st_o (show p + 6 ≠ p + 2 by omega), pt_st_o (show p ≠ p + 2 by omega)]
  refine ⟨h.1, fun s hs => ?_, h.2.2⟩
  show (if s = i then x else _) = (if s = i then x else _)
  rw [h.2.1 s hs]
theorem isC.rec {p : Nat} {M : pt_M} {c : pC} {i : Nat} {x : Int32} (h : isC p M c) : isC p (pt_st M (p + 3) i x) (c.1, c.2.1, upI c.2.2.1 i x, c.2.2.2) := by
  unfold isC isQ at h ⊢
  rw [pt_st_o (show p + 1 ≠ p + 3 by omega), pt_st_o (show p + 2 ≠ p + 3 by omega), pt_st_k, pt_st_o (show p + 4 ≠ p + 3 by omega), pt_st_o (show p + 6 ≠ p + 3 by omega), pt_st_o (show p ≠ p + 3 by omega)]
  refine ⟨h.1, h.2.1, fun s hs => ?_, h.2.2.2⟩
  show (if s = i then x else _) = (if s = i then x else _)
  rw [h.2.2.1 s hs]
theorem isC.var {p : Nat} {M : pt_M} {c : pC} {i : Nat} {x : Int32} (h : isC p M c) : isC p (pt_st M (p + 4) i x) (c.1, c.2.1, c.2.2.1, upI c.2.2.2.1 i x, c.2.2.2.2) := by
  unfold isC isQ at h ⊢
  rw [pt_st_o (show p + 1 ≠ p + 4 by omega), pt_st_o (show p + 2 ≠ p + 4 by omega), pt_st_o (show p + 3 ≠ p + 4 by omega), pt_st_k, pt_st_o (show p + 6 ≠ p + 4 by omega), pt_st_o (show p ≠ p + 4 by omega)]
  refine ⟨h.1, h.2.1, h.2.2.1, fun s hs => ?_, h.2.2.2.2⟩
  show (if s = i then x else _) = (if s = i then x else _)
  rw [h.2.2.2.1 s hs]
/-- an event into the QUEUE -/
def raF (e : Int32) (c : pC) : pC := if c.2.2.2.2.length < 8 then (c.1, c.2.1, c.2.2.1, c.2.2.2.1, c.2.2.2.2 ++ [e]) else c
theorem f_raise {p : Nat} {M : pt_M} {c : pC} {e : Int32} {Q : pt_M → Prop} (hc : isC p M c) (h : ∀ M', smM p M M' → isC p M' (raF e c) → Q M') : wpX3_raise p e M Q := by
  unfold wpX3_raise wjX3_raise_45
  have hq := hc.2.2.2.2
  rw [hq.1]
  refine ⟨fun q => eqv (h _ (smM.st0 (Or.inl rfl)) ?_), fun q => ⟨?_, eqv (eqv (h _ ((smM.st (by omega)).tr (smM.st0 (Or.inr rfl))) ?_))⟩⟩
  · unfold raF
    rw [if_neg (fun z => absurd q (nI_ge (b := 8) z (by omega)))]
    exact hc.st0 (by decide)
  · have : ¬ 8 ≤ c.2.2.2.2.length := fun z => q (nI_le (a := 8) z (by have := hq.2.1; omega))
    exact nI_in' (by omega) (by omega)
  · have hl : c.2.2.2.2.length < 8 := Nat.not_le.mp fun z => q (nI_le (a := 8) z (by have := hq.2.1; omega))
    unfold raF
    rw [if_pos hl, nI_clamp (by omega)]
    unfold isC isQ at hc ⊢
    obtain ⟨a1, a2, a3, a4, a5, a6, a7⟩ := hc
    rw [pt_st_o (show p + 1 ≠ p by omega), pt_st_o (show p + 2 ≠ p by omega), pt_st_o (show p + 3 ≠ p by omega), pt_st_o (show p + 4 ≠ p by omega), pt_st_o (show p + 6 ≠ p by omega), st_at, pt_st_o (show p + 1 ≠ p + 6 by omega), pt_st_o (show p + 2 ≠ p + 6 by omega), pt_st_o (show p + 3 ≠ p + 6 by omega), pt_st_o (show p + 4 ≠ p + 6 by omega), pt_st_o (show p ≠ p + 6 by omega), pt_st_k]
    refine ⟨a1, a2, a3, a4, ?_, ?_, ?_⟩
    · rw [a5, nI_1]
      show _ = nI (c.2.2.2.2 ++ [e]).length
      rw [List.length_append]
      rfl
    · show (c.2.2.2.2 ++ [e]).length ≤ 8
      rw [List.length_append]
      show _ + 1 ≤ 8
      omega
    · intro i x hx
      have hx : (c.2.2.2.2 ++ [e])[i]? = some x := hx
      show (if i = c.2.2.2.2.length then e else M (p + 6) i) = x
      rcases Nat.lt_trichotomy i c.2.2.2.2.length with z | z | z
      · rw [if_neg (by omega)]
        rw [List.getElem?_append_left z] at hx
        exact a7 i x hx
      · rw [if_pos z]
        rw [z, List.getElem?_append_right (Nat.le_refl _), Nat.sub_self] at hx
        exact Option.some.inj hx
      · rw [List.getElem?_eq_none (by rw [List.length_append]; show _ + 1 ≤ i; omega)] at hx
        cases hx
/-- an ACTION -/
def clF (x : Int32) : Int32 := if (-99) < (if x < 99 then x else 99) then (if x < 99 then x else 99) else (-99)
def acF (C : pt_M) (k : Nat) (c : pC) : pC := if C k 0 = 1 then (c.1, c.2.1, c.2.2.1, upI c.2.2.2.1 (C k 1).toNatClampNeg (C k 2), c.2.2.2.2) else if C k 0 = 2 then (c.1, c.2.1, c.2.2.1, upI c.2.2.2.1 (C k 1).toNatClampNeg (clF (c.2.2.2.1 (C k 1).toNatClampNeg + C k 2)), c.2.2.2.2) else if C k 0 = 3 then raF (C k 1) c else c
theorem f_act {C M : pt_M} {p k : Nat} {c : pC} {Q : pt_M → Prop} (hC : chE C M) (hk : 0 < k ∧ k < 125) (hA : acO C k) (hc : isC p M c) (h : ∀ M', smM p M M' → isC p M' (acF C k c) → Q M') : wpX3_act p k M Q := by
  unfold wpX3_act wjX3_act_80
  rw [hC k hk]
  unfold acF at h
  refine ⟨fun a => ?_, fun a => ⟨fun b => ?_, fun b => ⟨fun d => ?_, fun d => ?_⟩⟩⟩
  · obtain ⟨w, hw, e⟩ := hA.1 (Or.inl a)
    rw [if_pos a] at h
    exact ⟨by rw [e]; exact nI_in' hw (by omega), eqv (h _ (smM.st (by omega)) hc.var)⟩
  · obtain ⟨w, hw, e⟩ := hA.1 (Or.inr b)
    rw [if_neg a, if_pos b] at h
    unfold wpX4_add
    have hin : vp_in (C k 1) 4 := by rw [e]; exact nI_in' hw (by omega)
    refine ⟨hin, eqv (eqv (eqv ⟨hin, eqv (h _ (smM.st (by omega)) ?_)⟩))⟩
    have := hc.var (i := (C k 1).toNatClampNeg) (x := clF (M (p + 4) (C k 1).toNatClampNeg + C k 2))
    rw [hc.2.2.2.1 _ (by rw [e, nI_clamp (by omega)]; exact hw)] at this
    rw [show p + 1 + 3 = p + 4 from rfl, hc.2.2.2.1 _ (by rw [e, nI_clamp (by omega)]; exact hw)]
    exact this
  · rw [if_neg a, if_neg b, if_pos d] at h
    exact f_raise hc h
  · rw [if_neg a, if_neg b, if_neg d] at h
    exact h M smM.rf hc
