/-! ===== the Play's methods that only read ===== -/
def cK (C : pt_M) (s : Nat) : Nat := (C (5 + 3 * s) 2).toNatClampNeg
def cP (C : pt_M) (s : Nat) : Nat := (C (5 + 3 * s) 3).toNatClampNeg
def tF (C : pt_M) (t : Nat) : Nat := (C (65 + 2 * t) 1).toNatClampNeg
def tT (C : pt_M) (t : Nat) : Nat := (C (65 + 2 * t) 4).toNatClampNeg
def tS (C : pt_M) (t : Nat) : Nat := (C (65 + 2 * t) 5).toNatClampNeg
/-- an ACTION's numbers are within bounds -/
def acO (C : pt_M) (k : Nat) : Prop := (C k 0 = 1 ∨ C k 0 = 2 → ∃ w, w < 4 ∧ C k 1 = nI w) ∧ (C k 0 = 3 → ∃ w, w < 10 ∧ C k 1 = nI w)
/-- a TRANSITION's numbers are -/
def trO (C : pt_M) (n t : Nat) : Prop := (C (65 + 2 * t) 1 = nI (tF C t) ∧ tF C t < n ∧ cK C (tF C t) ≤ 1) ∧ (C (65 + 2 * t) 4 ≠ -1 → (C (65 + 2 * t) 4 = nI (tT C t) ∧ 0 < tT C t ∧ tT C t < n) ∧ (C (65 + 2 * t) 5 = nI (tS C t) ∧ tS C t < n ∧ cK C (tS C t) = 0) ∧ bt (C (5 + 3 * tS C t) 7) (tF C t) = true ∧ bt (C (5 + 3 * tS C t) 7) (tT C t) = true) ∧ (C (65 + 2 * t) 6 = 1 ∨ C (65 + 2 * t) 6 = 2 ∨ C (65 + 2 * t) 6 = 3 → ∃ w, w < 4 ∧ C (65 + 2 * t) 7 = nI w) ∧ acO C (65 + 2 * t + 1)
/-- a STATE's are -/
def stO (C : pt_M) (n s : Nat) : Prop := (C (5 + 3 * s) 2 = nI (cK C s) ∧ cK C s ≤ 4) ∧ (0 < s → C (5 + 3 * s) 3 = nI (cP C s) ∧ cP C s < s ∧ cK C (cP C s) ≤ 1 ∧ (cK C s = 2 → cK C (cP C s) = 0)) ∧ (∀ i, i < 32 → (bt (C (5 + 3 * s) 5) i = true ↔ i < n ∧ 0 < i ∧ cP C i = s ∧ cK C i ≤ 2)) ∧ (∀ i, i < 32 → (bt (C (5 + 3 * s) 7) i = true ↔ i < n ∧ 0 < i ∧ (cP C i = s ∨ bt (C (5 + 3 * s) 7) (cP C i) = true))) ∧ ((cK C s = 0 → C (5 + 3 * s) 5 ≠ 0 → ∃ f, f < 32 ∧ bt (C (5 + 3 * s) 5) f = true ∧ C (5 + 3 * s) 6 = s1 f) ∧ (cK C s = 1 → C (5 + 3 * s) 6 = C (5 + 3 * s) 5) ∧ (C (5 + 3 * s) 5 = 0 → C (5 + 3 * s) 6 = 0)) ∧ acO C (5 + 3 * s + 1) ∧ acO C (5 + 3 * s + 2)
/-- a whole chart of n STATES and m TRANSITIONS -/
def chO (C : pt_M) (n m : Nat) : Prop := (C 1 3 = nI n ∧ 1 ≤ n ∧ n ≤ 20) ∧ (C 1 4 = nI m ∧ m ≤ 30) ∧ (cK C 0 = 0 ∧ C 5 3 = -1) ∧ (∀ s, s < n → stO C n s) ∧ (∀ t, t < m → trO C n t) ∧ (∀ i, i < 32 → (bt (C 1 5) i = true ↔ i < n ∧ cK C i ≤ 2 ∧ C (5 + 3 * i) 5 = 0)) ∧ (∀ i, i < 32 → (bt (C 1 6) i = true ↔ i < n ∧ cK C i = 2))
theorem f_isAtEnd {C M : pt_M} {p : Nat} {Q : Int32 → pt_M → Prop} (hC : chE C M) (h : Q (if ((C 5 5 &&& C 1 6) &&& M (p + 1) 3) ≠ 0 then 1 else 0) M) : wpX3_isAtEnd p M Q := by
  unfold wpX3_isAtEnd wjX3_isAtEnd_36
  have e : pt_s 0 = 5 := by decide
  rw [e, hC 5 (by omega), hC 1 (by omega)]
  refine ⟨nI_in' (c := 0) (by omega) (by omega), fun q => ⟨Or.inl rfl, ?_⟩, fun q => ⟨Or.inr rfl, ?_⟩⟩
  · rw [if_neg (fun z => z q)] at h; exact h
  · rw [if_pos q] at h; exact h
/-- a GUARD lets it -/
def alB (C : pt_M) (t : Nat) (vs : Nat → Int32) : Bool := if C (65 + 2 * t) 6 = 1 then decide (vs (C (65 + 2 * t) 7).toNatClampNeg < C (65 + 2 * t) 8) else if C (65 + 2 * t) 6 = 2 then decide (vs (C (65 + 2 * t) 7).toNatClampNeg = C (65 + 2 * t) 8) else if C (65 + 2 * t) 6 = 3 then decide (C (65 + 2 * t) 8 < vs (C (65 + 2 * t) 7).toNatClampNeg) else true
theorem f_isAllowed {C M : pt_M} {n t k1 : Nat} {Q : Int32 → pt_M → Prop} (hC : chE C M) (ht : t < 30) (hT : trO C n t) (h : Q (if alB C t (M k1) = true then 1 else 0) M) : wpX6_isAllowed (65 + 2 * t) k1 M Q := by
  unfold wpX6_isAllowed wjX6_isAllowed_50 wjX6_isAllowed_69 wjX6_isAllowed_88
  rw [hC (65 + 2 * t) (by omega)]
  unfold alB at h
  have hg := hT.2.2.1
  refine ⟨fun a => ?_, fun a => ⟨fun b => ?_, fun b => ⟨fun c => ?_, fun c => ?_⟩⟩⟩
  · obtain ⟨w, hw, e⟩ := hg (Or.inl a)
    rw [if_pos a] at h
    refine ⟨by rw [e]; exact nI_in' hw (by omega), fun z => ⟨Or.inl rfl, ?_⟩, fun z => ⟨Or.inr rfl, ?_⟩⟩
    · rw [if_neg (by rw [decide_eq_false (Int32.not_lt.mpr z)]; decide)] at h; exact h
    · rw [if_pos (decide_eq_true (Int32.not_le.mp z))] at h; exact h
  · obtain ⟨w, hw, e⟩ := hg (Or.inr (Or.inl b))
    rw [if_neg a, if_pos b] at h
    refine ⟨by rw [e]; exact nI_in' hw (by omega), fun z => ⟨Or.inl rfl, ?_⟩, fun z => ⟨Or.inr rfl, ?_⟩⟩
    · rw [if_neg (by rw [decide_eq_false z]; decide)] at h; exact h
    · rw [if_pos (decide_eq_true z)] at h; exact h
  · obtain ⟨w, hw, e⟩ := hg (Or.inr (Or.inr c))
    rw [if_neg a, if_neg b, if_pos c] at h
    refine ⟨by rw [e]; exact nI_in' hw (by omega), fun z => ⟨Or.inl rfl, ?_⟩, fun z => ⟨Or.inr rfl, ?_⟩⟩
    · rw [if_neg (by rw [decide_eq_false (Int32.not_lt.mpr z)]; decide)] at h; exact h
    · rw [if_pos (decide_eq_true (Int32.not_le.mp z))] at h; exact h
  · rw [if_neg a, if_neg b, if_neg c, if_pos rfl] at h; exact h
/-- it is OPEN -/
def opB (C : pt_M) (a : Int32) (ag vs : Nat → Int32) (ed : Int32) (t : Nat) : Bool := bt a (tF C t) && alB C t vs && (if C (65 + 2 * t) 2 = 1 then decide (ag (tF C t) = C (65 + 2 * t) 3) else if C (65 + 2 * t) 2 = 2 then bt ed (tF C t) else true)
theorem f_isOpen {C M : pt_M} {n t p : Nat} {ed : Int32} {Q : Int32 → pt_M → Prop} (hC : chE C M) (h20 : n ≤ 20) (ht : t < 30) (hT : trO C n t) (h : Q (if opB C (M (p + 1) 3) (M (p + 2)) (M (p + 4)) ed t = true then 1 else 0) M) : wpX3_isOpen p (65 + 2 * t) ed M Q := by
  unfold wpX3_isOpen wjX3_isOpen_31 wjX3_isOpen_88
  have eT : M (65 + 2 * t) = C (65 + 2 * t) := hC _ (by omega)
  obtain ⟨⟨eF, hF, -⟩, -⟩ := id hT
  rw [eT, eF]
  unfold opB at h
  refine f_has (by omega) (br0 (fun hb => ?_) (fun hb => ?_))
  · rw [hb, if_neg (by simp)] at h; exact h
  · rw [hb, Bool.true_and] at h
    refine f_isAllowed hC ht hT (br1 (fun hb2 => ?_) (fun hb2 => ?_))
    · rw [show p + 1 + 3 = p + 4 from rfl] at hb2
      rw [hb2, if_neg (by simp)] at h; exact h
    · rw [show p + 1 + 3 = p + 4 from rfl] at hb2
      rw [hb2, Bool.true_and] at h
      rw [eT, eF]
      refine ⟨fun a => ?_, fun a => ⟨fun b => ?_, fun b => ?_⟩⟩
      · rw [if_pos a] at h
        rw [nI_clamp (by omega), show p + 1 + 1 = p + 2 from rfl]
        refine ⟨nI_in' (by omega) (by omega), fun z => ⟨Or.inl rfl, ?_⟩, fun z => ⟨Or.inr rfl, ?_⟩⟩
        · rw [if_neg (by rw [decide_eq_false z]; decide)] at h; exact h
        · rw [if_pos (decide_eq_true z)] at h; exact h
      · rw [if_neg a, if_pos b] at h
        refine f_has (by omega) ⟨?_, h⟩
        split
        · exact Or.inr rfl
        · exact Or.inl rfl
      · rw [if_neg a, if_neg b, if_pos rfl] at h; exact h
/-- what is OPEN in a STEP by a cause -/
def opF (C : pt_M) (n m : Nat) (a : Int32) (ag vs : Nat → Int32) (cs : Nat) : Int32 := mk (fun t => decide (t < m) && bt (C 4 cs) t && opB C a ag vs (edN C a n 0) t)
theorem f_openBy {C M : pt_M} {n m p cs : Nat} {Q : Int32 → pt_M → Prop} (hC : chE C M) (hO : chO C n m) (hcs : cs < 12) (h : Q (opF C n m (M (p + 1) 3) (M (p + 2)) (M (p + 4)) cs) M) : wpX3_openBy p (nI cs) M Q := by
  obtain ⟨⟨hn, h1, h20⟩, ⟨hm, h30⟩, -, -, hT, -⟩ := id hO
  unfold wpX3_openBy
  rw [nI_clamp (by omega), hC 4 (by omega)]
  refine ⟨nI_in' hcs (by omega), eqv ⟨fun q => f_endedAmong hC hn h1 h20 ?_, fun q => ?_⟩⟩
  · refine lp_up (S := Int32 × Int32 × Int32 × Int32 × pt_M) (lp := fun k z => lpX3_openBy_37 p (nI cs) Q k z.1 z.2.1 z.2.2.1 z.2.2.2.1 z.2.2.2.2) (lb := fun R z => lbX3_openBy_37 p (nI cs) Q (fun a b c d e => R (a, b, c, d, e)) z.1 z.2.1 z.2.2.1 z.2.2.2.1 z.2.2.2.2) (fun _ _ => rfl) m (fun i z => z = (C 4 cs, edN C (M (p + 1) 3) n 0, mk (fun t => decide (t < i) && bt (C 4 cs) t && opB C (M (p + 1) 3) (M (p + 2)) (M (p + 4)) (edN C (M (p + 1) 3) n 0) t), nI i, M)) ?_ (i := 0) (s := (C 4 cs, edN C (M (p + 1) 3) n 0, 0, 0, M)) (Nat.zero_le _) ?_
    · rintro i z hi rfl R hR
      show lbX3_openBy_37 _ _ _ (fun a b c d e => R (a, b, c, d, e)) _ _ _ (nI i) M
      unfold lbX3_openBy_37 wjX3_openBy_86
      rw [hC 1 (by omega), hm]
      refine ⟨fun q => ?_, fun q => ?_⟩
      · have := le_of_nI (by omega) (by omega) q
        have e : i = m := by omega
        subst e; exact h
      · have hlt := lt_of_nI (by omega) (by omega) q
        have e0 : ∀ f : Nat → Bool, f i = false → mk (fun t => decide (t < i) && f t) = mk (fun t => decide (t < i + 1) && f t) := fun f hf => mk_congr fun t _ => by
          by_cases e : t = i
          · subst e; rw [hf, Bool.and_false, Bool.and_false]
          · congr 2; exact propext ⟨fun _ => by omega, fun _ => by omega⟩
        have e1 : ∀ f : Nat → Bool, f i = true → mk (fun t => decide (t < i) && f t) ||| s1 i = mk (fun t => decide (t < i + 1) && f t) := fun f hf => mk_ext fun t ht => by
          rw [b_or, b_mk ht, b_s1 (by omega) ht]
          by_cases e : t = i
          · subst e; rw [hf, decide_eq_true rfl, decide_eq_true (Nat.lt_succ_self _)]; simp
          · rw [decide_eq_false e, Bool.or_false]; congr 2; exact propext ⟨fun _ => by omega, fun _ => by omega⟩
        refine f_has (by omega) (br0 (fun hb => nx (hR _ hlt ?_)) (fun hb => ⟨nI_in' (by omega) (by omega), ?_⟩))
        · congr 3
          simp only [Bool.and_assoc]
          exact e0 (fun t => bt (C 4 cs) t && opB C (M (p + 1) 3) (M (p + 2)) (M (p + 4)) (edN C (M (p + 1) 3) n 0) t) (by show (_ && _) = false; rw [hb, Bool.false_and])
        · rw [pt_t_n (by omega)]
          refine f_isOpen hC h20 (by omega) (hT i hlt) (br0 (fun hb2 => nx (hR _ hlt ?_)) (fun hb2 => f_setOf (eqv (nx (hR _ hlt ?_)))))
          · congr 3
            simp only [Bool.and_assoc]
            exact e0 (fun t => bt (C 4 cs) t && opB C (M (p + 1) 3) (M (p + 2)) (M (p + 4)) (edN C (M (p + 1) 3) n 0) t) (by show (_ && _) = false; rw [hb2, Bool.and_false])
          · congr 3
            simp only [Bool.and_assoc]
            exact e1 (fun t => bt (C 4 cs) t && opB C (M (p + 1) 3) (M (p + 2)) (M (p + 4)) (edN C (M (p + 1) 3) n 0) t) (by show (_ && _) = true; rw [hb, hb2]; rfl)
    · rw [i0]
      congr 3
      refine b_ext fun i hi => ?_
      rw [← i0, b_0, b_mk hi, decide_eq_false (Nat.not_lt_zero _)]
      rfl
  · have e : opF C n m (M (p + 1) 3) (M (p + 2)) (M (p + 4)) cs = 0 := (mk_ext (f := fun t => decide (t < m) && bt (C 4 cs) t && opB C (M (p + 1) 3) (M (p + 2)) (M (p + 4)) (edN C (M (p + 1) 3) n 0) t) (fun t ht => by rw [q, b_0]; simp)).symm
    rw [e] at h
    exact h
/-! the smallest of a set -/
theorem b_neg (x : Int32) {i : Nat} (hi : i < 32) : bt (-x) i = (bt x i ^^ decide (∃ j, j < i ∧ bt x j = true)) := by
  unfold bt
  rw [Int32.toBitVec_neg, BitVec.getLsbD_neg]
  simp [hi]
theorem b_least {x : Int32} (h : x ≠ 0) : ∃ t, t < 32 ∧ bt x t = true ∧ ∀ j, j < t → bt x j = false := by
  obtain ⟨i, hi, hb⟩ := b_ne0.mp h
  have : ∀ k, (∀ j, j < k → bt x j = false) ∨ ∃ t, t < k ∧ bt x t = true ∧ ∀ j, j < t → bt x j = false := by
    intro k
    induction k with
    | zero => exact Or.inl fun j hj => absurd hj (Nat.not_lt_zero _)
    | succ k ih =>
      rcases ih with ih | ⟨t, ht, h1, h2⟩
      · cases e : bt x k
        · refine Or.inl fun j hj => ?_
          rcases Nat.lt_or_eq_of_le (Nat.le_of_lt_succ hj) with q | rfl
          · exact ih j q
          · exact e
        · exact Or.inr ⟨k, Nat.lt_succ_self _, e, ih⟩
      · exact Or.inr ⟨t, Nat.lt_succ_of_lt ht, h1, h2⟩
  rcases this 32 with q | ⟨t, ht, h1, h2⟩
  · rw [q i hi] at hb; cases hb
  · exact ⟨t, ht, h1, h2⟩
theorem b_low {x : Int32} {t : Nat} (ht : t < 32) (h1 : bt x t = true) (h2 : ∀ j, j < t → bt x j = false) : x &&& -x = s1 t := by
  refine b_ext fun i hi => ?_
  rw [b_and, b_neg x hi, b_s1 ht hi]
  rcases Nat.lt_trichotomy i t with q | rfl | q
  · rw [h2 i q, Bool.false_and, decide_eq_false (show ¬ i = t by omega)]
  · rw [h1, decide_eq_true rfl, decide_eq_false (by rintro ⟨j, hj, hb⟩; rw [h2 j hj] at hb; cases hb)]; rfl
  · rw [decide_eq_true (show ∃ j, j < i ∧ bt x j = true from ⟨t, q, h1⟩), decide_eq_false (by omega)]
    cases bt x i <;> rfl
def bcF (p1 : Int32) : Int32 :=
  let a := (p1 - ((((p1 : Int32).toUInt32 >>> ((1 : Int32).toUInt32 &&& Int32.toUInt32 31)).toInt32) &&& 1431655765))
  let b := ((a &&& 858993459) + ((((a : Int32).toUInt32 >>> ((2 : Int32).toUInt32 &&& Int32.toUInt32 31)).toInt32) &&& 858993459))
  let c := ((b + (((b : Int32).toUInt32 >>> ((4 : Int32).toUInt32 &&& Int32.toUInt32 31)).toInt32)) &&& 252645135)
  let d := (c + (((c : Int32).toUInt32 >>> ((8 : Int32).toUInt32 &&& Int32.toUInt32 31)).toInt32))
  let e := (d + (((d : Int32).toUInt32 >>> ((16 : Int32).toUInt32 &&& Int32.toUInt32 31)).toInt32))
  e &&& 63
theorem f_bitCount {x : Int32} {M : pt_M} {Q : Int32 → pt_M → Prop} (h : Q (bcF x) M) : wpJ6_bitCount_0f7a4 x M Q := by
  unfold wpJ6_bitCount_0f7a4
  rintro _ rfl _ rfl _ rfl _ rfl _ rfl
  exact h
theorem bcF_low : ∀ t, t < 32 → bcF (s1 t - 1) = nI t := by decide +kernel
theorem f_smallestOf {x : Int32} {t : Nat} {M : pt_M} {Q : Int32 → pt_M → Prop} (ht : t < 32) (h1 : bt x t = true) (h2 : ∀ j, j < t → bt x j = false) (h : Q (nI t) M) : wpX3_smallestOf x M Q := by
  unfold wpX3_smallestOf
  refine f_bitCount ?_
  rw [b_low ht h1 h2, bcF_low t ht]
  exact h
