section
variable {C : pt_M} {n m : Nat}
/-- the core behind entering, as it is STARTED -/
def c1C (C : pt_M) (n : Nat) : pC := etN C (flN C n (s1 0)) n c0C
theorem c1C_inv (hO : chO C n m) : invC C n 0 (c1C C n) := by
  have h20 := hO.n.2.2
  have hl := fl_legal hO
  have ea : (c1C C n).1 = flN C n (s1 0) := by
    refine b_ext fun b hb => ?_
    unfold c1C
    rw [(etN_a hb (by omega)).1]
    show (bt 0 b || _) = _
    rw [b_0, Bool.false_or]
    cases e : bt (flN C n (s1 0)) b
    · simp
    · rw [decide_eq_true (hl.2.1 b hb e).1]; rfl
  refine ⟨by rw [ea]; exact hl, fun h _ _ => Or.inl ?_, fun s hs => ?_⟩
  · unfold c1C
    rw [(etN_a (b := 0) (by omega) (by omega)).2.2]
    rfl
  · rw [ea]
    have e1 : (c1C C n).2.1 s = (if s < n ∧ bt (flN C n (s1 0)) s = true then 0 else -1) := by
      unfold c1C
      rw [(etN_a (show s < 32 by omega) (by omega)).2.1]
      rfl
    rw [e1]
    refine ⟨fun x => ?_, fun x => ?_⟩
    · rw [if_pos ⟨(hl.2.1 s (by omega) x).1, x⟩]
      exact ⟨0, Nat.le_refl _, i0⟩
    · rw [if_neg (fun z => by rw [x] at z; exact absurd z.2 (by decide))]
/-- the core behind start() -/
def pcS (C : pt_M) (n m : Nat) : pC × List Nat × Nat := pcF C n m 11 (c1C C n)
theorem f_start {M : pt_M} {Q : Int32 → pt_M → Prop} (hC : chE C M) (hO : chO C n m) (hr : M 0 4 = 0) (hq3 : isQ 133 M []) (h : ∀ M', (∀ k, k ≠ 0 → (k < 125 ∨ 132 < k) → M' k = M k) → enO C n m (pcS C n m).1 M' → (pcS C n m).2.2 < 3 → M' 125 4 = 0 → M' 125 6 = (if (pcS C n m).2.2 = 1 then 1 else 0) → (∃ f : Nat → Int32, (∀ t, t < 30 → f t = 0) ∧ M' 130 = fiF (pcS C n m).2.1 f) → Q (nI (pcS C n m).2.1.length) M') : wpX7_start M Q := by
  obtain ⟨hn, h1, h20⟩ := hO.n
  unfold wpX7_start
  refine f_checkResting hr (eqv (f_reset (fun M1 hf1 hc1 ht1 h41 h61 => ?_)))
  have hf0 : ∀ k, k ≠ 0 → (k < 125 ∨ 132 < k) → M1 k = M k := fun k k0 hk => by rw [hf1 k (by omega), pt_st_o k0]
  have hr1 : M1 0 4 = 1 := by rw [hf1 0 (by omega), st_at]
  have hC1 : chE C M1 := fun k hk => by rw [hf0 k (by omega) (by omega), hC k hk]
  rw [i0]
  refine f_setOf (f_filled hC1 hn h20 (f_enter (by omega) hC1 hO hc1 (fun M2 hs2 hc2 => ?_)))
  have hqb : qB (c1C C n) := qB.et (fun s hs => (hO.s hs).2.2.2.2.2.1) (qB_nil rfl)
  refine f_proceed (cs := 11) (by omega) (hs2.1.chE (by omega) hC1) hO (by omega) hqb hc2 (fun M3 hf3 h43 h63 h53 hc3 hr3 => ?_)
  have hf23 := hs2.1.tr hf3
  have hf03 : ∀ k, k ≠ 0 → (k < 125 ∨ 132 < k) → M3 k = M k := fun k k0 hk => by rw [hf23 k (by omega), hf0 k k0 hk]
  have hq3' : isQ 133 M3 [] := by
    unfold isQ at hq3 ⊢
    rw [hf03 133 (by omega) (by omega), hf03 (133 + 6) (by omega) (by omega)]
    exact hq3
  refine h M3 hf03 ⟨hf23.chE (by omega) hC1, hO, by rw [hf23 0 (by omega)]; exact hr1, hc3, pcF_q hr3, hq3'⟩ hr3 ?_ ?_ ⟨M1 130, ht1, ?_⟩
  · rw [h43, if_neg (fun z => absurd z.2 (by decide)), hs2.2.1.2.1, h41]
  · rw [h63, hs2.2.1.2.2.1, h61]
    rfl
  · rw [h53, hs2.2.2.1]
    rfl
theorem pcS_inv (hO : chO C n m) : invC C n 0 (pcS C n m).1 := by
  have := pcF_inv (cs := 11) hO (c1C_inv hO)
  rw [if_neg (fun z => absurd z.2 (by decide))] at this
  exact this
end
