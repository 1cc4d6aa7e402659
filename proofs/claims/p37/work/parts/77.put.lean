/-! ===== a state is put ===== -/
theorem pt_rd {M : pt_M} {k j a b : Nat} {x : Int32} : pt_st M k j x a b = if a = k ∧ b = j then x else M a b := by
  unfold pt_st
  by_cases e : a = k
  · subst e
    rw [if_pos rfl]
    by_cases e2 : b = j
    · rw [if_pos e2, if_pos ⟨rfl, e2⟩]
    · rw [if_neg e2, if_neg (fun q => e2 q.2)]
  · rw [if_neg e, if_neg (fun q => e q.1)]
theorem f_putPart {M : pt_M} {k0 n : Nat} {Q : pt_M → Prop} (hk : M k0 2 = 0 ∨ M k0 2 = 1) (h : ∀ M', M' k0 5 = M k0 5 ||| s1 n → M' k0 6 = (if M k0 2 = 1 then M k0 5 ||| s1 n else if M k0 5 = 0 then s1 n else M k0 6) → (∀ x j, ¬ (x = k0 ∧ (j = 4 ∨ j = 5 ∨ j = 6)) → M' x j = M x j) → Q M') : wpX5_putPart k0 (nI n) M Q := by
  have t19 : ∀ M1, M1 k0 2 = M k0 2 → M1 k0 5 = M k0 5 → M1 k0 6 = (if M k0 2 = 1 then M k0 6 else if M k0 5 = 0 then s1 n else M k0 6) → (∀ x j, ¬ (x = k0 ∧ (j = 4 ∨ j = 5 ∨ j = 6)) → M1 x j = M x j) → wjX5_putPart_19 k0 (nI n) Q M1 := by
    intro M1 e2 e5 e6 eo
    unfold wjX5_putPart_19 wjX5_putPart_48
    refine f_setOf (eqv ?_)
    rw [pt_rd, if_neg (by omega), e2, e5]
    refine ⟨fun q => h _ ?_ ?_ ?_, fun q => eqv (h _ ?_ ?_ ?_)⟩
    · rw [pt_rd, if_pos ⟨rfl, rfl⟩]
    · rw [pt_rd, if_neg (by omega), e6, if_neg q, if_neg q]
    · intro x j hx
      rw [pt_rd, if_neg (by omega)]; exact eo x j hx
    · rw [pt_rd, if_neg (by omega), pt_rd, if_pos ⟨rfl, rfl⟩]
    · rw [pt_rd, if_pos ⟨rfl, rfl⟩, pt_rd, if_pos ⟨rfl, rfl⟩, if_pos q]
    · intro x j hx
      rw [pt_rd, if_neg (by omega), pt_rd, if_neg (by omega)]; exact eo x j hx
  unfold wpX5_putPart
  refine ⟨fun q => t19 M rfl rfl ?_ (fun _ _ _ => rfl), fun q => ⟨fun q2 => t19 M rfl rfl ?_ (fun _ _ _ => rfl), fun q2 => ?_⟩⟩
  · rcases hk with z | z
    · exact absurd z q
    · rw [if_pos z]
  · rw [if_neg (by rw [q]; decide), if_neg q2]
  · unfold wpX5_putFirst
    refine eqv (f_setOf (eqv (t19 _ ?_ ?_ ?_ ?_)))
    · rw [pt_rd, if_neg (by omega), pt_rd, if_neg (by omega)]
    · rw [pt_rd, if_neg (by omega), pt_rd, if_neg (by omega)]
    · rw [pt_rd, if_pos ⟨rfl, rfl⟩, if_neg (by rw [q]; decide), if_pos q2]
    · intro x j hx
      rw [pt_rd, if_neg (by omega), pt_rd, if_neg (by omega)]
def psN (M : pt_M) (n p : Nat) : Nat → pt_M
  | 0 => M
  | i + 1 => if i = p ∨ bt (M (5 + 3 * i) 7) p = true then pt_st (psN M n p i) (5 + 3 * i) 7 (M (5 + 3 * i) 7 ||| s1 n) else psN M n p i
theorem psN_o {M : pt_M} {n p x j : Nat} : ∀ {i}, (∀ s, s < i → ¬ (x = 5 + 3 * s ∧ j = 7)) → psN M n p i x j = M x j
  | 0, _ => rfl
  | i + 1, h => by
    have ih := psN_o (M := M) (n := n) (p := p) (x := x) (j := j) (i := i) (fun s hs => h s (by omega))
    rw [psN]
    split
    · rw [pt_rd, if_neg (h i (by omega))]; exact ih
    · exact ih
theorem psN_7 {M : pt_M} {n p s : Nat} : ∀ {i}, s < i → psN M n p i (5 + 3 * s) 7 = (if s = p ∨ bt (M (5 + 3 * s) 7) p = true then M (5 + 3 * s) 7 ||| s1 n else M (5 + 3 * s) 7)
  | 0, h => absurd h (Nat.not_lt_zero _)
  | i + 1, h => by
    rw [psN]
    by_cases e : s = i
    · subst e
      by_cases q : s = p ∨ bt (M (5 + 3 * s) 7) p = true
      · rw [if_pos q, if_pos q, pt_rd, if_pos ⟨rfl, rfl⟩]
      · rw [if_neg q, if_neg q, psN_o (fun s' hs' => by omega)]
    · have ih := psN_7 (M := M) (n := n) (p := p) (s := s) (i := i) (by omega)
      split
      · rw [pt_rd, if_neg (by omega)]; exact ih
      · exact ih
/-- the memory behind putState -/
def puO (M M' : pt_M) (n p k : Nat) : Prop := M' 1 3 = nI (n + 1) ∧ (M' (5 + 3 * n) 2 = nI k ∧ M' (5 + 3 * n) 3 = nI p) ∧ (∀ s, s < n → M' (5 + 3 * s) 7 = (if s = p ∨ bt (M (5 + 3 * s) 7) p = true then M (5 + 3 * s) 7 ||| s1 n else M (5 + 3 * s) 7)) ∧ M' (5 + 3 * p) 5 = (if k ≤ 2 then M (5 + 3 * p) 5 ||| s1 n else M (5 + 3 * p) 5) ∧ M' (5 + 3 * p) 6 = (if k ≤ 2 then (if M (5 + 3 * p) 2 = 1 then M (5 + 3 * p) 5 ||| s1 n else if M (5 + 3 * p) 5 = 0 then s1 n else M (5 + 3 * p) 6) else M (5 + 3 * p) 6) ∧ M' 1 5 = (if k ≤ 2 then (M 1 5 &&& (s1 p ^^^ (-1))) ||| s1 n else M 1 5) ∧ M' 1 6 = (if k = 2 then M 1 6 ||| s1 n else M 1 6) ∧ ∀ x j, ¬ (x = 1 ∧ (j = 3 ∨ j = 5 ∨ j = 6)) → ¬ (x = 5 + 3 * n ∧ (j = 2 ∨ j = 3)) → (∀ s, s < n → ¬ (x = 5 + 3 * s ∧ j = 7)) → ¬ (x = 5 + 3 * p ∧ (j = 4 ∨ j = 5 ∨ j = 6)) → M' x j = M x j
theorem f_putState {M : pt_M} {n p k : Nat} {Q : Int32 → pt_M → Prop} (hn : M 1 3 = nI n) (h20 : n < 20) (hp : p < n) (hk : k ≤ 4) (hkp : M (5 + 3 * p) 2 = 0 ∨ M (5 + 3 * p) 2 = 1) (h : ∀ M', puO M M' n p k → Q (nI n) M') : wpX1_putState (nI p) (nI k) M Q := by
  unfold wpX1_putState
  rw [hn]
  refine eqv ⟨nI_in' h20 (by omega), ?_⟩
  rw [pt_s_n (by omega)]
  refine eqv (eqv (eqv ?_))
  rw [pt_rd, if_neg (by omega), pt_rd, if_neg (by omega), hn, nI_s1]
  have a13 : pt_st (pt_st (pt_st M (5 + 3 * n) 2 (nI k)) (5 + 3 * n) 3 (nI p)) 1 3 (nI (n + 1)) 1 3 = nI (n + 1) := by rw [pt_rd, if_pos ⟨rfl, rfl⟩]
  have a2 : pt_st (pt_st (pt_st M (5 + 3 * n) 2 (nI k)) (5 + 3 * n) 3 (nI p)) 1 3 (nI (n + 1)) (5 + 3 * n) 2 = nI k := by rw [pt_rd, if_neg (by omega), pt_rd, if_neg (by omega), pt_rd, if_pos ⟨rfl, rfl⟩]
  have a3 : pt_st (pt_st (pt_st M (5 + 3 * n) 2 (nI k)) (5 + 3 * n) 3 (nI p)) 1 3 (nI (n + 1)) (5 + 3 * n) 3 = nI p := by rw [pt_rd, if_neg (by omega), pt_rd, if_pos ⟨rfl, rfl⟩]
  have ao : ∀ x j, ¬ (x = 1 ∧ j = 3) → ¬ (x = 5 + 3 * n ∧ (j = 2 ∨ j = 3)) → pt_st (pt_st (pt_st M (5 + 3 * n) 2 (nI k)) (5 + 3 * n) 3 (nI p)) 1 3 (nI (n + 1)) x j = M x j := fun x j h1 h2 => by rw [pt_rd, if_neg (by omega), pt_rd, if_neg (by omega), pt_rd, if_neg (by omega)]
  generalize pt_st (pt_st (pt_st M (5 + 3 * n) 2 (nI k)) (5 + 3 * n) 3 (nI p)) 1 3 (nI (n + 1)) = M1 at a13 a2 a3 ao
  refine lp_up (S := Int32 × Nat × Int32 × pt_M) (lp := fun k' z => lpX1_putState_38 (nI p) (nI k) Q k' z.1 z.2.1 z.2.2.1 z.2.2.2) (lb := fun R z => lbX1_putState_38 (nI p) (nI k) Q (fun a b c d => R (a, b, c, d)) z.1 z.2.1 z.2.2.1 z.2.2.2) (fun _ _ => rfl) n (fun i z => z = (nI n, 5 + 3 * n, nI i, psN M1 n p i)) ?_ (i := 0) (s := (nI n, 5 + 3 * n, 0, M1)) (Nat.zero_le _) (by rw [i0]; rfl)
  rintro i z hi rfl R hR
  show lbX1_putState_38 (nI p) (nI k) Q (fun a b c d => R (a, b, c, d)) (nI n) (5 + 3 * n) (nI i) (psN M1 n p i)
  unfold lbX1_putState_38
  refine ⟨fun q => ?_, fun q => ?_⟩
  · have := le_of_nI (by omega) (by omega) q
    have e : i = n := by omega
    subst e
    have b13 : psN M1 i p i 1 3 = nI (i + 1) := by rw [psN_o (fun s hs => by omega)]; exact a13
    have b2 : psN M1 i p i (5 + 3 * i) 2 = nI k := by rw [psN_o (fun s hs => by omega)]; exact a2
    have b3 : psN M1 i p i (5 + 3 * i) 3 = nI p := by rw [psN_o (fun s hs => by omega)]; exact a3
    have b7 : ∀ s, s < i → psN M1 i p i (5 + 3 * s) 7 = (if s = p ∨ bt (M (5 + 3 * s) 7) p = true then M (5 + 3 * s) 7 ||| s1 i else M (5 + 3 * s) 7) := fun s hs => by rw [psN_7 hs, ao _ _ (by omega) (by omega)]
    have bo : ∀ x j, ¬ (x = 1 ∧ j = 3) → ¬ (x = 5 + 3 * i ∧ (j = 2 ∨ j = 3)) → (∀ s, s < i → ¬ (x = 5 + 3 * s ∧ j = 7)) → psN M1 i p i x j = M x j := fun x j h1 h2 h3 => by rw [psN_o h3]; exact ao x j h1 h2
    generalize psN M1 i p i = L at b13 b2 b3 b7 bo
    have bp2 : L (5 + 3 * p) 2 = M (5 + 3 * p) 2 := bo _ _ (by omega) (by omega) (fun s hs => by omega)
    have bp5 : L (5 + 3 * p) 5 = M (5 + 3 * p) 5 := bo _ _ (by omega) (by omega) (fun s hs => by omega)
    have bp6 : L (5 + 3 * p) 6 = M (5 + 3 * p) 6 := bo _ _ (by omega) (by omega) (fun s hs => by omega)
    have b15 : L 1 5 = M 1 5 := bo _ _ (by omega) (by omega) (fun s hs => by omega)
    have b16 : L 1 6 = M 1 6 := bo _ _ (by omega) (by omega) (fun s hs => by omega)
    have k34 : ∀ w, w < 5 → (nI k = nI w ↔ k = w) := fun w hw => nI_eq (by omega) (by omega)
    unfold wjX1_putState_130 wjX1_putState_148
    refine f_isMark ?_
    rw [b2]
    refine brp1 (fun z => ?_) (fun z => ?_)
    · have hk2 : k ≤ 2 := by
        have z3 : ¬ k = 3 := fun y => z (Or.inl ((k34 3 (by omega)).mpr y))
        have z4 : ¬ k = 4 := fun y => z (Or.inr ((k34 4 (by omega)).mpr y))
        omega
      refine ⟨nI_in' (by omega) (by omega), ?_⟩
      rw [pt_s_n (by omega)]
      refine f_putPart (n := i) (by rw [bp2]; exact hkp) (fun P1 p5 p6 po => ?_)
      refine f_setOf (f_setOf (eqv ?_))
      have p15 : P1 1 5 = M 1 5 := by rw [po _ _ (by omega)]; exact b15
      have p16 : P1 1 6 = M 1 6 := by rw [po _ _ (by omega)]; exact b16
      rw [p15]
      rw [bp5] at p5
      rw [bp2, bp5, bp6] at p6
      have fin : ∀ F : pt_M, F 1 5 = (M 1 5 &&& (s1 p ^^^ (-1))) ||| s1 i → F 1 6 = (if k = 2 then M 1 6 ||| s1 i else M 1 6) → (∀ x j, ¬ (x = 1 ∧ (j = 5 ∨ j = 6)) → F x j = P1 x j) → puO M F i p k := by
        intro F f5 f6 fo
        refine ⟨?_, ⟨?_, ?_⟩, fun s hs => ?_, ?_, ?_, ?_, f6, fun x j h1 h2 h3 h4 => ?_⟩
        · rw [fo _ _ (by omega), po _ _ (by omega)]; exact b13
        · rw [fo _ _ (by omega), po _ _ (by omega)]; exact b2
        · rw [fo _ _ (by omega), po _ _ (by omega)]; exact b3
        · rw [fo _ _ (by omega), po _ _ (by omega)]; exact b7 s hs
        · rw [fo _ _ (by omega), if_pos hk2]; exact p5
        · rw [fo _ _ (by omega), if_pos hk2]; exact p6
        · rw [if_pos hk2]; exact f5
        · rw [fo _ _ (by omega), po _ _ (by omega)]; exact bo x j (by omega) h2 h3
      refine ⟨fun q2 => h _ (fin _ ?_ ?_ ?_), fun q2 => f_setOf (eqv (h _ (fin _ ?_ ?_ ?_)))⟩
      · rw [pt_rd, if_pos ⟨rfl, rfl⟩]
      · rw [pt_rd, if_neg (by omega), if_neg (fun y => q2 ((k34 2 (by omega)).mpr y))]; exact p16
      · intro x j hx
        rw [pt_rd, if_neg (by omega)]
      · rw [pt_rd, if_neg (by omega), pt_rd, if_pos ⟨rfl, rfl⟩]
      · rw [pt_rd, if_pos ⟨rfl, rfl⟩, pt_rd, if_neg (by omega), if_pos ((k34 2 (by omega)).mp q2), p16]
      · intro x j hx
        rw [pt_rd, if_neg (by omega), pt_rd, if_neg (by omega)]
    · have hk3 : 3 ≤ k := by
        rcases z with y | y
        · have := (k34 3 (by omega)).mp y
          omega
        · have := (k34 4 (by omega)).mp y
          omega
      refine ⟨fun _ => h _ ⟨b13, ⟨b2, b3⟩, b7, ?_, ?_, ?_, ?_, fun x j h1 h2 h3 h4 => ?_⟩, fun q2 => ?_⟩
      · rw [if_neg (by omega)]; exact bp5
      · rw [if_neg (by omega)]; exact bp6
      · rw [if_neg (by omega)]; exact b15
      · rw [if_neg (by omega)]; exact b16
      · exact bo x j (by omega) h2 h3
      · have := (k34 2 (by omega)).mp q2
        omega
  · have hl : i < n := lt_of_nI (by omega) (by omega) q
    have r7 : psN M1 n p i (5 + 3 * i) 7 = M1 (5 + 3 * i) 7 := psN_o (fun s hs => by omega)
    unfold wjX1_putState_67 wjX1_putState_86
    rw [pt_s_n (by omega), r7]
    have go : (i = p ∨ bt (M1 (5 + 3 * i) 7) p = true) → R (nI n, 5 + 3 * n, nI (i + 1), pt_st (psN M1 n p i) (5 + 3 * i) 7 (M1 (5 + 3 * i) 7 ||| s1 n)) := fun z => hR _ hl (by rw [psN, if_pos z])
    refine ⟨fun e => ⟨nI_in' (by omega) (by omega), f_setOf (eqv (nx (go (Or.inl ?_))))⟩, fun e => ⟨nI_in' (by omega) (by omega), f_has (by omega) (br0 (fun z => nx (hR _ hl ?_)) (fun z => ⟨nI_in' (by omega) (by omega), f_setOf (eqv (nx (by rw [r7]; exact go (Or.inr z))))⟩))⟩⟩
    · exact (nI_eq (by omega) (by omega)).mp e
    · rw [psN, if_neg]
      rintro (y | y)
      · exact e (by rw [y])
      · rw [z] at y; cases y
