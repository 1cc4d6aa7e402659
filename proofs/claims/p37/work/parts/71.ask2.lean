/-! ===== more that is asked ===== -/
section
variable {C : pt_M} {n m : Nat}
theorem f_ageOf {M : pt_M} {c : pC} {s : Nat} {Q : Int32 → pt_M → Prop} (hE : enO C n m c M) (hs : s < n) (h : Q (c.2.1 s) M) : wpX7_ageOf (nI s) M Q := by
  obtain ⟨hC, hO, hr, hc, hq, hq3⟩ := hE
  obtain ⟨hn, h1, h20⟩ := hO.n
  unfold wpX7_ageOf
  refine f_checkState hC hn h20 hs ⟨nI_in' (by omega) (by omega), ?_⟩
  rw [nI_clamp (by omega), show 125 + 1 + 1 = 125 + 2 from rfl, hc.2.1 s (by omega)]
  exact h
theorem f_ofState1 {M : pt_M} {s : Nat} {Q : Int32 → pt_M → Prop} (hC : chE C M) (hO : chO C n m) (hs : s < n) (h : Q (C (5 + 3 * s) 3) M) : wpX7_ofState (nI s) 1 M Q := by
  obtain ⟨hn, h1, h20⟩ := hO.n
  unfold wpX7_ofState
  refine f_checkState hC hn h20 hs ⟨nI_in' (by omega) (by omega), fun q => absurd q (by decide), fun _ => ⟨fun _ => ?_, fun q => absurd rfl q⟩⟩
  rw [pt_s_n (by omega), hC (5 + 3 * s) (by omega)]
  exact h
theorem f_ofState3 {M : pt_M} {s : Nat} {Q : Int32 → pt_M → Prop} (hC : chE C M) (hO : chO C n m) (hs : s < n) (h : Q (bcF (C (5 + 3 * s) 5)) M) : wpX7_ofState (nI s) 3 M Q := by
  obtain ⟨hn, h1, h20⟩ := hO.n
  unfold wpX7_ofState
  refine f_checkState hC hn h20 hs ⟨nI_in' (by omega) (by omega), fun q => absurd q (by decide), fun _ => ⟨fun q => absurd q (by decide), fun _ => ⟨fun q => absurd q (by decide), fun _ => ⟨fun _ => ?_, fun q => absurd rfl q⟩⟩⟩⟩
  rw [pt_s_n (by omega), hC (5 + 3 * s) (by omega)]
  exact f_bitCount h
theorem f_fired {M : pt_M} {t : Nat} {Q : Int32 → pt_M → Prop} (hC : chE C M) (hO : chO C n m) (ht : t < m) (h : Q (M 130 t) M) : wpX7_fired (nI t) M Q := by
  obtain ⟨hm, h30⟩ := hO.m
  unfold wpX7_fired
  refine f_checkTransition hC hm h30 ht ⟨nI_in' (by omega) (by omega), ?_⟩
  rw [nI_clamp (by omega)]
  exact h
/-- how many fired -/
def cvF (f : Nat → Int32) : Nat → Int32
  | 0 => 0
  | k + 1 => if f k ≤ 0 then cvF f k else cvF f k + 1
theorem f_covered {M : pt_M} {Q : Int32 → pt_M → Prop} (hC : chE C M) (hO : chO C n m) (h : Q (cvF (M 130) m) M) : wpX7_covered M Q := by
  obtain ⟨hm, h30⟩ := hO.m
  refine lp_up (S := Int32 × Int32 × pt_M) (lp := fun k z => lpX7_covered_4 Q k z.1 z.2.1 z.2.2) (lb := fun R z => lbX7_covered_4 Q (fun a b c => R (a, b, c)) z.1 z.2.1 z.2.2) (fun _ _ => rfl) m (fun i z => z = (cvF (M 130) i, nI i, M)) ?_ (i := 0) (s := (0, 0, M)) (Nat.zero_le _) (by rw [i0]; rfl)
  rintro i z hi rfl R hR
  show lbX7_covered_4 Q (fun a b c => R (a, b, c)) _ (nI i) M
  unfold lbX7_covered_4 wjX7_covered_30
  rw [hC 1 (by omega), hm]
  refine ⟨fun q => ?_, fun q => ?_⟩
  · have := le_of_nI (by omega) (by omega) q
    have e : i = m := by omega
    subst e; exact h
  · have hl := lt_of_nI (by omega) (by omega) q
    rw [nI_clamp (by omega)]
    refine ⟨nI_in' (by omega) (by omega), fun q0 => nx (hR _ hl ?_), fun q0 => eqv (nx (hR _ hl ?_))⟩
    · rw [cvF, if_pos q0]
    · rw [cvF, if_neg q0]
/-- the ROOT is ENDED where one of its ENDs is ACTIVE -/
theorem edN_0 (hO : chO C n m) {a : Int32} (h : ((C 5 5 &&& C 1 6) &&& a) ≠ 0) : bt (edN C a n 0) 0 = true := by
  obtain ⟨hn, h1, h20⟩ := hO.n
  have hk : C 5 2 = 0 := by
    have := (hO.k (s := 0) (k := 0) (by omega) (by omega)).mpr hO.2.2.1.1
    rw [nI_0] at this
    exact this
  have key : ∀ i x, bt (edN C a (i + 1) x) 0 = true := by
    intro i
    induction i with
    | zero =>
      intro x
      show bt (if _ then x ||| s1 0 else x) 0 = true
      rw [if_pos (Or.inl ⟨hk, h⟩), b_or, b_s1 (by omega) (by omega), decide_eq_true rfl, Bool.or_true]
    | succ i ih => intro x; exact ih _
  obtain ⟨k, rfl⟩ : ∃ k, n = k + 1 := ⟨n - 1, by omega⟩
  exact key k 0
theorem f_isEnded0 {M : pt_M} {c : pC} {Q : Int32 → pt_M → Prop} (hE : enO C n m c M) (hov : ((C 5 5 &&& C 1 6) &&& c.1) ≠ 0) (h : Q 1 M) : wpX7_isEnded 0 M Q := by
  obtain ⟨hC, hO, hr, hc, hq, hq3⟩ := hE
  obtain ⟨hn, h1, h20⟩ := hO.n
  unfold wpX7_isEnded
  rw [i0]
  refine f_checkState hC hn h20 (by omega) (f_endedAmong hC hn h1 h20 (f_has (by omega) ?_))
  rw [hc.1, edN_0 hO hov, if_pos rfl]
  exact ⟨Or.inr rfl, h⟩
end
