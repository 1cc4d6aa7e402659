/-! ===== actions and transitions are told ===== -/
theorem b_7v (x : Int32) : ∃ u : Nat, u < 2 ^ 31 ∧ (x &&& 2147483647) = nI u := by
  have h : ¬ (x &&& 2147483647) < 0 := by
    intro q
    have hn : (x &&& 2147483647).toBitVec.msb = false := by
      rw [BitVec.msb_eq_getLsbD_last]
      show bt (x &&& 2147483647) 31 = false
      rw [b_and]
      have : bt 2147483647 31 = false := by decide +kernel
      rw [this, Bool.and_false]
    have h2 : (x &&& 2147483647).toInt < 0 := by
      have := Int32.lt_iff_toInt_lt.mp q
      exact this
    have h3 : 0 ≤ (x &&& 2147483647).toBitVec.toInt := by
      rw [BitVec.toInt_eq_msb_cond, hn]
      exact Int.natCast_nonneg _
    exact absurd h2 (Int.not_lt.mpr h3)
  obtain ⟨j, hj, e⟩ := nI_of h
  exact ⟨j, hj, e⟩
/-- below n -/
theorem below_lt (v : Int32) {k : Nat} (h0 : 0 < k) (hk : k < 2 ^ 31) : ∃ w, w < k ∧ pf_below v (nI k) = nI w := by
  obtain ⟨u, hu, e⟩ := b_7v v
  refine ⟨u % k, Nat.mod_lt _ h0, ?_⟩
  have hm : u % k < k := Nat.mod_lt _ h0
  unfold pf_below
  rw [e]
  apply Int32.toInt_inj.mp
  rw [rem_toInt, nI_toInt hu, nI_toInt hk, nI_toInt (by omega)]
  rfl
theorem acO.of {C : pt_M} {k c w : Nat} (h0 : C k 0 = nI c) (h1 : C k 1 = nI w) (hc : c < 4) (hw : w < 4) : acO C k := ⟨fun _ => ⟨w, hw, h1⟩, fun _ => ⟨w, by omega, h1⟩⟩
theorem f_isAction {M : pt_M} {c w : Nat} {z : Int32} {Q : Int32 → pt_M → Prop} (hc : c < 4) (hw : w < 4) (h1 : -99 ≤ z) (h2 : z ≤ 99) (h : Q 1 M) : wpX7_isAction (nI c) (nI w) z M Q := by
  have hcc : ∀ v, v < 5 → (nI c = nI v ↔ c = v) := fun v hv => nI_eq (by omega) (by omega)
  unfold wpX7_isAction
  refine ⟨fun q => ⟨fun q2 => ?_, fun q2 => ?_⟩, fun _ => h⟩
  · have c0 : ¬ c = 0 := fun y => q ((hcc 0 (by omega)).mpr y)
    have c3 : ¬ c = 3 := fun y => q2 ((hcc 3 (by omega)).mpr y)
    refine f_within (nI_le (a := 1) (by omega) (by omega)) (nI_le (b := 2) (by omega) (by omega)) ⟨fun y => absurd y (by decide), fun _ => ?_⟩
    refine f_within (nI_le (a := 0) (by omega) (by omega)) (nI_le (b := 3) (by omega) (by omega)) ⟨fun y => absurd y (by decide), fun _ => ?_⟩
    unfold wpX7_isNumber
    refine f_within h1 h2 ⟨Or.inr rfl, fun y => absurd y (by decide), fun _ => ⟨Or.inr rfl, h⟩⟩
  · exact f_within (nI_le (a := 0) (by omega) (by omega)) (nI_le (b := 9) (by omega) (by omega)) ⟨Or.inr rfl, h⟩
theorem f_isGuard {M : pt_M} {c w : Nat} {z : Int32} {Q : Int32 → pt_M → Prop} (hc : c < 4) (hw : w < 4) (h1 : -99 ≤ z) (h2 : z ≤ 99) (h : Q 1 M) : wpX7_isGuard (nI c) (nI w) z M Q := by
  have hcc : ∀ v, v < 5 → (nI c = nI v ↔ c = v) := fun v hv => nI_eq (by omega) (by omega)
  unfold wpX7_isGuard
  refine ⟨fun q => ?_, fun _ => h⟩
  have c0 : ¬ c = 0 := fun y => q ((hcc 0 (by omega)).mpr y)
  refine f_within (nI_le (a := 1) (by omega) (by omega)) (nI_le (b := 3) (by omega) (by omega)) ⟨fun y => absurd y (by decide), fun _ => ?_⟩
  refine f_within (nI_le (a := 0) (by omega) (by omega)) (nI_le (b := 3) (by omega) (by omega)) ⟨fun y => absurd y (by decide), fun _ => ?_⟩
  unfold wpX7_isNumber
  refine f_within h1 h2 ⟨Or.inr rfl, fun y => absurd y (by decide), fun _ => ⟨Or.inr rfl, h⟩⟩
theorem f_isTrigger {M : pt_M} {c w : Nat} {Q : Int32 → pt_M → Prop} (hc : c < 4) (hw : 1 ≤ w ∧ w ≤ 3) (h : Q 1 M) : wpX7_isTrigger (nI c) (nI w) M Q := by
  have hcc : ∀ v, v < 5 → (nI c = nI v ↔ c = v) := fun v hv => nI_eq (by omega) (by omega)
  unfold wpX7_isTrigger wjX7_isTrigger_35 wjX7_isTrigger_40
  refine ⟨fun q => ⟨fun q2 => ⟨fun _ => ⟨Or.inr rfl, h⟩, fun q3 => ⟨fun q4 => ?_, fun _ => ⟨Or.inr rfl, h⟩⟩⟩, fun _ => ?_⟩, fun _ => ?_⟩
  · have c0 : ¬ c = 0 := fun y => q ((hcc 0 (by omega)).mpr y)
    have c1 : ¬ c = 1 := fun y => q2 ((hcc 1 (by omega)).mpr y)
    have c2 : ¬ c = 2 := fun y => q3 ((hcc 2 (by omega)).mpr y)
    have c3 : ¬ c = 3 := fun y => q4 ((hcc 3 (by omega)).mpr y)
    omega
  · exact f_within (nI_le (a := 1) (by omega) (by omega)) (nI_le (b := 50) (by omega) (by omega)) ⟨Or.inr rfl, h⟩
  · exact f_within (nI_le (a := 0) (by omega) (by omega)) (nI_le (b := 9) (by omega) (by omega)) ⟨Or.inr rfl, h⟩
/-- the same states, the transitions told anew -/
theorem chO_congr {M M' : pt_M} {n m m' : Nat} (h : chO M n m) (hs : ∀ s j, s < n → j = 2 ∨ j = 3 ∨ j = 5 ∨ j = 6 ∨ j = 7 → M' (5 + 3 * s) j = M (5 + 3 * s) j) (h3 : M' 1 3 = M 1 3) (h5 : M' 1 5 = M 1 5) (h6 : M' 1 6 = M 1 6) (ha : ∀ s, s < n → acO M' (5 + 3 * s + 1) ∧ acO M' (5 + 3 * s + 2)) (h4 : M' 1 4 = nI m' ∧ m' ≤ 30) (ht : ∀ t, t < m' → trO M' n t) : chO M' n m' := by
  obtain ⟨hn, h1, h20⟩ := h.n
  have o2 : ∀ s, s < n → M' (5 + 3 * s) 2 = M (5 + 3 * s) 2 := fun s q => hs s 2 q (by omega)
  have o3 : ∀ s, s < n → M' (5 + 3 * s) 3 = M (5 + 3 * s) 3 := fun s q => hs s 3 q (by omega)
  have o5 : ∀ s, s < n → M' (5 + 3 * s) 5 = M (5 + 3 * s) 5 := fun s q => hs s 5 q (by omega)
  have o6 : ∀ s, s < n → M' (5 + 3 * s) 6 = M (5 + 3 * s) 6 := fun s q => hs s 6 q (by omega)
  have o7 : ∀ s, s < n → M' (5 + 3 * s) 7 = M (5 + 3 * s) 7 := fun s q => hs s 7 q (by omega)
  have k' : ∀ s, s < n → cK M' s = cK M s := fun s q => cK_eq (o2 s q)
  have p' : ∀ s, s < n → cP M' s = cP M s := fun s q => cP_eq (o3 s q)
  refine ⟨⟨by rw [h3]; exact hn, h1, h20⟩, h4, ⟨by rw [k' 0 (by omega)]; exact h.2.2.1.1, ?_⟩, fun s q => ?_, ht, fun i hi => ?_, fun i hi => ?_⟩
  · rw [show (5 : Nat) = 5 + 3 * 0 from rfl, o3 0 (by omega)]; exact h.2.2.1.2
  · obtain ⟨s1', s2, s3, s4, s5, s6, s7⟩ := h.s q
    refine ⟨⟨by rw [o2 s q, k' s q]; exact s1'.1, by rw [k' s q]; exact s1'.2⟩, fun h0 => ?_, fun i hi => ?_, fun i hi => ?_, ?_, (ha s q).1, (ha s q).2⟩
    · have := s2 h0
      rw [o3 s q, p' s q, k' s q, k' _ (by omega)]; exact this
    · rw [o5 s q, s3 i hi]
      by_cases hin : i < n
      · rw [p' i hin, k' i hin]
      · exact ⟨fun y => absurd y.1 hin, fun y => absurd y.1 hin⟩
    · rw [o7 s q, s4 i hi]
      by_cases hin : i < n
      · rw [p' i hin]
      · exact ⟨fun y => absurd y.1 hin, fun y => absurd y.1 hin⟩
    · rw [k' s q, o5 s q, o6 s q]; exact s5
  · rw [h5, h.2.2.2.2.2.1 i hi]
    by_cases hin : i < n
    · rw [k' i hin, o5 i hin]
    · exact ⟨fun y => absurd y.1 hin, fun y => absurd y.1 hin⟩
  · rw [h6, h.2.2.2.2.2.2 i hi]
    by_cases hin : i < n
    · rw [k' i hin]
    · exact ⟨fun y => absurd y.1 hin, fun y => absurd y.1 hin⟩
theorem trO_congr {M M' : pt_M} {n m t : Nat} (hO : chO M n m) (h : trO M n t) (hs : ∀ s j, s < n → j = 2 ∨ j = 3 ∨ j = 5 ∨ j = 6 ∨ j = 7 → M' (5 + 3 * s) j = M (5 + 3 * s) j) (e1 : M' (65 + 2 * t) 1 = M (65 + 2 * t) 1) (e4 : M' (65 + 2 * t) 4 = M (65 + 2 * t) 4) (e5 : M' (65 + 2 * t) 5 = M (65 + 2 * t) 5) (hg : M' (65 + 2 * t) 6 = 1 ∨ M' (65 + 2 * t) 6 = 2 ∨ M' (65 + 2 * t) 6 = 3 → ∃ w, w < 4 ∧ M' (65 + 2 * t) 7 = nI w) (ha : acO M' (65 + 2 * t + 1)) : trO M' n t := by
  have f : tF M' t = tF M t := by unfold tF; rw [e1]
  have g : tT M' t = tT M t := by unfold tT; rw [e4]
  have d : tS M' t = tS M t := by unfold tS; rw [e5]
  obtain ⟨⟨a1, a2, a3⟩, b, _, _⟩ := h
  refine ⟨⟨by rw [e1, f]; exact a1, by rw [f]; exact a2, ?_⟩, fun z => ?_, hg, ha⟩
  · rw [f, cK_eq (hs _ 2 a2 (by omega))]; exact a3
  · rw [e4] at z
    obtain ⟨c1, ⟨c2, c3, c4⟩, c5, c6⟩ := b z
    rw [e4, e5, f, g, d, hs _ 7 c3 (by omega), cK_eq (hs _ 2 c3 (by omega))]
    exact ⟨c1, ⟨c2, c3, c4⟩, c5, c6⟩
/-- one cell object of an action is written -/
def acW (M : pt_M) (y c w : Nat) (z : Int32) : pt_M := pt_st (pt_st (pt_st M y 0 (nI c)) y 1 (nI w)) y 2 z
theorem acW_o {M : pt_M} {y c w x j : Nat} {z : Int32} (h : x ≠ y) : acW M y c w z x j = M x j := by
  unfold acW
  rw [pt_rd, if_neg (by omega), pt_rd, if_neg (by omega), pt_rd, if_neg (by omega)]
theorem acW_0 {M : pt_M} {y c w : Nat} {z : Int32} : acW M y c w z y 0 = nI c := by
  unfold acW
  rw [pt_rd, if_neg (by omega), pt_rd, if_neg (by omega), pt_rd, if_pos ⟨rfl, rfl⟩]
theorem acW_1 {M : pt_M} {y c w : Nat} {z : Int32} : acW M y c w z y 1 = nI w := by
  unfold acW
  rw [pt_rd, if_neg (by omega), pt_rd, if_pos ⟨rfl, rfl⟩]
theorem acW_rs {M : pt_M} {n m y c w : Nat} {z : Int32} (hR : rsO M n m) (hy : (∃ s, s < n ∧ (y = 5 + 3 * s + 1 ∨ y = 5 + 3 * s + 2)) ∨ ∃ t, t < m ∧ y = 65 + 2 * t + 1) (hc : c < 4) (hw : w < 4) : rsO (acW M y c w z) n m := by
  obtain ⟨hO, hfs, hft, hr, hq⟩ := hR
  obtain ⟨hn, h1, h20⟩ := hO.n
  obtain ⟨hm, h30⟩ := hO.m
  have hyy : (y < 65 ∧ y % 3 ≠ 2 ∧ 5 < y ∧ y < 5 + 3 * n) ∨ (65 < y ∧ y % 2 = 0 ∧ y < 65 + 2 * m) := by
    rcases hy with ⟨s, hs, e⟩ | ⟨t, ht, e⟩ <;> omega
  have hac : ∀ x, acO M x → acO (acW M y c w z) x := fun x hx => by
    by_cases e : x = y
    · subst e; exact acO.of acW_0 acW_1 hc hw
    · exact hx.congr (acW_o e) (acW_o e)
  have hs' : ∀ s j, s < n → j = 2 ∨ j = 3 ∨ j = 5 ∨ j = 6 ∨ j = 7 → acW M y c w z (5 + 3 * s) j = M (5 + 3 * s) j := fun s j hs _ => acW_o (by omega)
  refine ⟨chO_congr hO hs' (acW_o (by omega)) (acW_o (by omega)) (acW_o (by omega)) (fun s hs => ⟨hac _ (hO.s hs).2.2.2.2.2.1, hac _ (hO.s hs).2.2.2.2.2.2⟩) ⟨by rw [acW_o (by omega)]; exact hm, h30⟩ (fun t ht => ?_), fun s a b => ?_, fun t a b => ?_, by rw [acW_o (by omega)]; exact hr, ?_⟩
  · have hT := hO.t ht
    exact trO_congr hO hT hs' (acW_o (by omega)) (acW_o (by omega)) (acW_o (by omega)) (by rw [acW_o (by omega), acW_o (by omega)]; exact hT.2.2.1) (hac _ hT.2.2.2)
  · obtain ⟨f1, f2, f3, f4, f5⟩ := hfs s a b
    refine ⟨?_, ?_, ?_, ?_, ?_⟩ <;> rw [acW_o (by omega)] <;> assumption
  · obtain ⟨f1, f2⟩ := hft t a b
    refine ⟨?_, ?_⟩ <;> rw [acW_o (by omega)] <;> assumption
  · obtain ⟨f1, f2, f3⟩ := hq
    exact ⟨by rw [acW_o (by omega)]; exact f1, f2, fun i x e => by rw [acW_o (by omega)]; exact f3 i x e⟩
theorem rsO.ch {M : pt_M} {n m : Nat} (h : rsO M n m) : chE M M := fun _ _ => rfl
theorem f_setDoing {M : pt_M} {n m s c w l : Nat} {z : Int32} {Q : Int32 → pt_M → Prop} (hR : rsO M n m) (hs : s < n) (hk : cK M s ≤ 2) (hc : c < 4) (hw : w < 4) (h1 : -99 ≤ z) (h2 : z ≤ 99) (hl : l = 0 ∨ l = 1) (h : ∀ r M', rsO M' n m → (∀ s, s < n → M' (5 + 3 * s) 2 = M (5 + 3 * s) 2) → Q r M') : wpX7_setDoing (nI s) (nI l) (nI c) (nI w) z M Q := by
  obtain ⟨hn, hn1, h20⟩ := hR.1.n
  unfold wpX7_setDoing
  refine f_checkResting hR.2.2.2.1 (f_checkState hR.ch hn h20 hs ⟨nI_in' (by omega) (by omega), f_isMark ?_⟩)
  rw [pt_s_n (by omega)]
  have hmk : ¬ (M (5 + 3 * s) 2 = 3 ∨ M (5 + 3 * s) 2 = 4) := by
    rintro (y | y)
    · have := (hR.1.k hs (k := 3) (by omega)).mp y
      omega
    · have := (hR.1.k hs (k := 4) (by omega)).mp y
      omega
  rw [if_neg hmk]
  refine ⟨fun y => absurd rfl y, fun _ => f_isAction hc hw h1 h2 ⟨fun _ => ?_, fun y => absurd y (by decide)⟩⟩
  unfold wjX7_setDoing_64 wpX0_become
  have fin : ∀ y, y = 5 + 3 * s + 1 ∨ y = 5 + 3 * s + 2 → Q (M y 0) (acW M y c w z) := fun y hy => h _ _ (acW_rs hR (Or.inl ⟨s, hs, hy⟩) hc hw) (fun s' hs' => acW_o (by omega))
  refine ⟨fun _ => eqv (eqv (eqv (eqv (fin _ (Or.inl rfl))))), fun _ => eqv (eqv (eqv (eqv (fin _ (Or.inr rfl)))))⟩
theorem f_setAction {M : pt_M} {n m t c w : Nat} {z : Int32} {Q : Int32 → pt_M → Prop} (hR : rsO M n m) (ht : t < m) (hc : c < 4) (hw : w < 4) (h1 : -99 ≤ z) (h2 : z ≤ 99) (h : ∀ r M', rsO M' n m → (∀ s, s < n → M' (5 + 3 * s) 2 = M (5 + 3 * s) 2) → Q r M') : wpX7_setAction (nI t) (nI c) (nI w) z M Q := by
  obtain ⟨hn, hn1, h20⟩ := hR.1.n
  obtain ⟨hm, h30⟩ := hR.1.m
  unfold wpX7_setAction
  refine f_checkResting hR.2.2.2.1 (f_checkTransition hR.ch hm h30 ht (f_isAction hc hw h1 h2 ⟨fun _ => ⟨nI_in' (by omega) (by omega), ?_⟩, fun y => absurd y (by decide)⟩))
  rw [pt_t_n (by omega)]
  unfold wpX0_become
  exact eqv (eqv (eqv (eqv (h _ _ (acW_rs hR (Or.inr ⟨t, ht, rfl⟩) hc hw) (fun s' hs' => acW_o (by omega))))))
theorem f_setGuard {M : pt_M} {n m t c w : Nat} {z : Int32} {Q : Int32 → pt_M → Prop} (hR : rsO M n m) (ht : t < m) (hc : c < 4) (hw : w < 4) (h1 : -99 ≤ z) (h2 : z ≤ 99) (h : ∀ r M', rsO M' n m → (∀ s, s < n → M' (5 + 3 * s) 2 = M (5 + 3 * s) 2) → Q r M') : wpX7_setGuard (nI t) (nI c) (nI w) z M Q := by
  obtain ⟨hO, hfs, hft, hr, hq⟩ := hR
  obtain ⟨hn, hn1, h20⟩ := hO.n
  obtain ⟨hm, h30⟩ := hO.m
  unfold wpX7_setGuard
  refine f_checkResting hr (f_checkTransition (C := M) (fun _ _ => rfl) hm h30 ht (f_isGuard hc hw h1 h2 ⟨fun _ => ⟨nI_in' (by omega) (by omega), ?_⟩, fun y => absurd y (by decide)⟩))
  rw [pt_t_n (by omega)]
  refine eqv (eqv (eqv (eqv (h _ _ ?_ (fun s' hs' => ?_)))))
  · have go : ∀ x j, ¬ (x = 65 + 2 * t ∧ (j = 6 ∨ j = 7 ∨ j = 8)) → pt_st (pt_st (pt_st M (65 + 2 * t) 6 (nI c)) (65 + 2 * t) 7 (nI w)) (65 + 2 * t) 8 z x j = M x j := fun x j hx => by rw [pt_rd, if_neg (by omega), pt_rd, if_neg (by omega), pt_rd, if_neg (by omega)]
    have g7 : pt_st (pt_st (pt_st M (65 + 2 * t) 6 (nI c)) (65 + 2 * t) 7 (nI w)) (65 + 2 * t) 8 z (65 + 2 * t) 7 = nI w := by rw [pt_rd, if_neg (by omega), pt_rd, if_pos ⟨rfl, rfl⟩]
    generalize pt_st (pt_st (pt_st M (65 + 2 * t) 6 (nI c)) (65 + 2 * t) 7 (nI w)) (65 + 2 * t) 8 z = M' at go g7
    have hs' : ∀ s j, s < n → j = 2 ∨ j = 3 ∨ j = 5 ∨ j = 6 ∨ j = 7 → M' (5 + 3 * s) j = M (5 + 3 * s) j := fun s j hs _ => go _ _ (by omega)
    have hac : ∀ x, acO M x → acO M' x := fun x hx => hx.congr (go _ _ (by omega)) (go _ _ (by omega))
    refine ⟨chO_congr hO hs' (go _ _ (by omega)) (go _ _ (by omega)) (go _ _ (by omega)) (fun s hs => ⟨hac _ (hO.s hs).2.2.2.2.2.1, hac _ (hO.s hs).2.2.2.2.2.2⟩) ⟨by rw [go _ _ (by omega)]; exact hm, h30⟩ (fun t' ht' => ?_), fun s a b => ?_, fun t' a b => ?_, by rw [go _ _ (by omega)]; exact hr, ?_⟩
    · have hT := hO.t ht'
      refine trO_congr hO hT hs' (go _ _ (by omega)) (go _ _ (by omega)) (go _ _ (by omega)) ?_ (hac _ hT.2.2.2)
      by_cases e : t' = t
      · subst e
        exact fun _ => ⟨w, hw, g7⟩
      · rw [go _ _ (by omega), go _ _ (by omega)]; exact hT.2.2.1
    · obtain ⟨f1, f2, f3, f4, f5⟩ := hfs s a b
      refine ⟨?_, ?_, ?_, ?_, ?_⟩ <;> rw [go _ _ (by omega)] <;> assumption
    · obtain ⟨f1, f2⟩ := hft t' a b
      refine ⟨?_, ?_⟩ <;> rw [go _ _ (by omega)] <;> assumption
    · obtain ⟨f1, f2, f3⟩ := hq
      exact ⟨by rw [go _ _ (by omega)]; exact f1, f2, fun i x e => by rw [go _ _ (by omega)]; exact f3 i x e⟩
  · rw [pt_rd, if_neg (by omega), pt_rd, if_neg (by omega), pt_rd, if_neg (by omega)]
