/-! ===== the chart behind what is put ===== -/
theorem ac_0 {C : pt_M} {k : Nat} (h : C k 0 = 0) : acO C k := ⟨fun z => by rw [h] at z; exact absurd z (by decide), fun z => by rw [h] at z; exact absurd z (by decide)⟩
theorem acO.congr {C D : pt_M} {k : Nat} (h : acO C k) (e0 : D k 0 = C k 0) (e1 : D k 1 = C k 1) : acO D k := by
  unfold acO
  rw [e0, e1]; exact h
/-- a state that nothing was done with yet -/
def frS (M : pt_M) (s : Nat) : Prop := M (5 + 3 * s) 5 = 0 ∧ M (5 + 3 * s) 6 = 0 ∧ M (5 + 3 * s) 7 = 0 ∧ M (5 + 3 * s + 1) 0 = 0 ∧ M (5 + 3 * s + 2) 0 = 0
def frT (M : pt_M) (t : Nat) : Prop := M (65 + 2 * t) 6 = 0 ∧ M (65 + 2 * t + 1) 0 = 0
/-- the engine while it is told its chart -/
def rsO (M : pt_M) (n m : Nat) : Prop := chO M n m ∧ (∀ s, n ≤ s → s < 20 → frS M s) ∧ (∀ t, m ≤ t → t < 30 → frT M t) ∧ M 0 4 = 0 ∧ isQ 133 M []
theorem cK_eq {C D : pt_M} {s : Nat} (h : D (5 + 3 * s) 2 = C (5 + 3 * s) 2) : cK D s = cK C s := by unfold cK; rw [h]
theorem cP_eq {C D : pt_M} {s : Nat} (h : D (5 + 3 * s) 3 = C (5 + 3 * s) 3) : cP D s = cP C s := by unfold cP; rw [h]
theorem put_rs {M M' : pt_M} {n p k : Nat} (hR : rsO M n 0) (h20 : n < 20) (hp : p < n) (hk : k ≤ 4) (hkp : cK M p ≤ 1) (hk2 : k = 2 → cK M p = 0) (hu : puO M M' n p k) : rsO M' (n + 1) 0 := by
  obtain ⟨hO, hfs, hft, hr, hq⟩ := hR
  obtain ⟨u1, ⟨u2, u3⟩, u7, up5, up6, ul, ue, uo⟩ := hu
  obtain ⟨hn, h1, _⟩ := hO.n
  have o2 : ∀ s, s < n → M' (5 + 3 * s) 2 = M (5 + 3 * s) 2 := fun s hs => uo _ _ (by omega) (by omega) (fun _ _ => by omega) (by omega)
  have o3 : ∀ s, s < n → M' (5 + 3 * s) 3 = M (5 + 3 * s) 3 := fun s hs => uo _ _ (by omega) (by omega) (fun _ _ => by omega) (by omega)
  have o5 : ∀ s, s ≠ p → M' (5 + 3 * s) 5 = M (5 + 3 * s) 5 := fun s hs => uo _ _ (by omega) (by omega) (fun _ _ => by omega) (by omega)
  have o6 : ∀ s, s ≠ p → M' (5 + 3 * s) 6 = M (5 + 3 * s) 6 := fun s hs => uo _ _ (by omega) (by omega) (fun _ _ => by omega) (by omega)
  have o7 : ∀ s, n ≤ s → M' (5 + 3 * s) 7 = M (5 + 3 * s) 7 := fun s hs => uo _ _ (by omega) (by omega) (fun _ _ => by omega) (by omega)
  have oa : ∀ x j, x % 3 ≠ 2 → x ≠ 1 → M' x j = M x j := fun x j hx h1 => uo _ _ (by omega) (by omega) (fun _ _ => by omega) (by omega)
  have ob : ∀ x j, 65 ≤ x → M' x j = M x j := fun x j hx => uo _ _ (by omega) (by omega) (fun _ _ => by omega) (by omega)
  have k' : ∀ s, s < n → cK M' s = cK M s := fun s hs => cK_eq (o2 s hs)
  have p' : ∀ s, s < n → cP M' s = cP M s := fun s hs => cP_eq (o3 s hs)
  have kn : cK M' n = k := by unfold cK; rw [u2, nI_clamp (by omega)]
  have pn : cP M' n = p := by unfold cP; rw [u3, nI_clamp (by omega)]
  obtain ⟨fr5, fr6, fr7, fra, frb⟩ := hfs n (Nat.le_refl _) h20
  have n5 : M' (5 + 3 * n) 5 = 0 := by rw [o5 n (by omega)]; exact fr5
  have n6 : M' (5 + 3 * n) 6 = 0 := by rw [o6 n (by omega)]; exact fr6
  have n7 : M' (5 + 3 * n) 7 = 0 := by rw [o7 n (by omega)]; exact fr7
  have hsn : ∀ i, i < 32 → bt (s1 n) i = decide (i = n) := fun i hi => b_s1 (by omega) hi
  have b7 : ∀ s i, s < n → i < 32 → (bt (M' (5 + 3 * s) 7) i = true ↔ bt (M (5 + 3 * s) 7) i = true ∨ (i = n ∧ (s = p ∨ bt (M (5 + 3 * s) 7) p = true))) := by
    intro s i hs hi
    rw [u7 s hs]
    split
    · rename_i z
      rw [b_or, hsn i hi, Bool.or_eq_true, decide_eq_true_eq]
      exact ⟨fun y => y.elim Or.inl (fun y => Or.inr ⟨y, z⟩), fun y => y.elim Or.inl (fun y => Or.inr y.1)⟩
    · rename_i z
      exact ⟨Or.inl, fun y => y.elim id (fun y => absurd y.2 z)⟩
  have b7o : ∀ s i, s < n → i < n → (bt (M' (5 + 3 * s) 7) i = true ↔ bt (M (5 + 3 * s) 7) i = true) := fun s i hs hi => by
    rw [b7 s i hs (by omega)]
    exact ⟨fun y => y.elim id (fun y => by omega), Or.inl⟩
  have b5 : ∀ i, i < 32 → (bt (M' (5 + 3 * p) 5) i = true ↔ bt (M (5 + 3 * p) 5) i = true ∨ (k ≤ 2 ∧ i = n)) := by
    intro i hi
    rw [up5]
    split
    · rename_i z
      rw [b_or, hsn i hi, Bool.or_eq_true, decide_eq_true_eq]
      exact ⟨fun y => y.elim Or.inl (fun y => Or.inr ⟨z, y⟩), fun y => y.elim Or.inl (fun y => Or.inr y.2)⟩
    · rename_i z
      exact ⟨Or.inl, fun y => y.elim id (fun y => absurd y.1 z)⟩
  have hkp2 : M (5 + 3 * p) 2 = nI (cK M p) := (hO.s hp).1.1
  have hkk : ∀ w, w < 5 → (M (5 + 3 * p) 2 = nI w ↔ cK M p = w) := fun w hw => hO.k hp (by omega)
  refine ⟨⟨⟨u1, by omega, by omega⟩, ⟨?_, by omega⟩, ⟨?_, ?_⟩, fun s hs => ?_, fun t ht => absurd ht (Nat.not_lt_zero _), fun i hi => ?_, fun i hi => ?_⟩, fun s h1 h2 => ?_, fun t h1 h2 => ?_, ?_, ?_⟩
  · rw [uo 1 4 (by omega) (by omega) (fun _ _ => by omega) (by omega)]; exact hO.m.1
  · rw [k' 0 (by omega)]; exact hO.2.2.1.1
  · rw [show (5 : Nat) = 5 + 3 * 0 from rfl, o3 0 (by omega)]; exact hO.2.2.1.2
  · rcases Nat.lt_or_eq_of_le (Nat.le_of_lt_succ hs) with hs | rfl
    · obtain ⟨s1', s2, s3, s4, s5, s6, s7⟩ := hO.s hs
      refine ⟨⟨by rw [o2 s hs, k' s hs]; exact s1'.1, by rw [k' s hs]; exact s1'.2⟩, fun h0 => ?_, fun i hi => ?_, fun i hi => ?_, ?_, s6.congr (oa _ _ (by omega) (by omega)) (oa _ _ (by omega) (by omega)), s7.congr (oa _ _ (by omega) (by omega)) (oa _ _ (by omega) (by omega))⟩
      · have := s2 h0
        rw [o3 s hs, p' s hs, k' s hs, k' _ (by omega)]; exact this
      · by_cases hin : i < n
        · rw [p' i hin, k' i hin]
          by_cases e : s = p
          · subst e
            rw [b5 i hi, s3 i hi]
            exact ⟨fun y => y.elim (fun y => ⟨by omega, y.2⟩) (fun y => by omega), fun y => Or.inl ⟨hin, y.2⟩⟩
          · rw [o5 s e, s3 i hi]
            exact ⟨fun y => ⟨by omega, y.2⟩, fun y => ⟨hin, y.2⟩⟩
        · by_cases ei : i = n
          · subst ei
            rw [pn, kn]
            by_cases e : s = p
            · subst e
              rw [b5 i hi, s3 i hi]
              exact ⟨fun y => y.elim (fun y => by omega) (fun y => ⟨by omega, by omega, rfl, y.1⟩), fun y => Or.inr ⟨y.2.2.2, rfl⟩⟩
            · rw [o5 s e, s3 i hi]
              exact ⟨fun y => by omega, fun y => absurd y.2.2.1.symm e⟩
          · constructor
            · intro y
              exfalso
              by_cases e : s = p
              · subst e
                rw [b5 i hi, s3 i hi] at y
                omega
              · rw [o5 s e, s3 i hi] at y
                omega
            · intro y; omega
      · by_cases hin : i < n
        · rw [b7o s i hs hin, s4 i hi, p' i hin]
          by_cases h0 : 0 < i
          · have hpi : cP M i < n := by have := (hO.pa hin h0).1; omega
            rw [b7o s _ hs hpi]
            exact ⟨fun y => ⟨by omega, y.2⟩, fun y => ⟨hin, y.2⟩⟩
          · exact ⟨fun y => absurd y.2.1 h0, fun y => absurd y.2.1 h0⟩
        · by_cases ei : i = n
          · subst ei
            rw [pn, b7 s i hs hi, b7o s p hs hp]
            have hold : ¬ bt (M (5 + 3 * s) 7) i = true := fun y => by have := ((s4 i hi).mp y).1; omega
            exact ⟨fun y => y.elim (fun y => absurd y hold) (fun y => ⟨by omega, by omega, y.2.elim (fun z => Or.inl z.symm) Or.inr⟩), fun y => Or.inr ⟨rfl, y.2.2.elim (fun z => Or.inl z.symm) Or.inr⟩⟩
          · constructor
            · intro y
              rw [b7 s i hs hi, s4 i hi] at y
              omega
            · intro y; omega
      · rw [k' s hs]
        by_cases e : s = p
        · subst e
          by_cases hk3 : k ≤ 2
          · rw [if_pos hk3] at up5 up6
            have hne : M' (5 + 3 * s) 5 ≠ 0 := b_ne0.mpr ⟨n, by omega, by rw [b5 n (by omega)]; exact Or.inr ⟨hk3, rfl⟩⟩
            refine ⟨fun z _ => ?_, fun z => ?_, fun z => absurd z hne⟩
            · rw [if_neg (fun y => by have := (hkk 1 (by omega)).mp y; omega)] at up6
              by_cases z5 : M (5 + 3 * s) 5 = 0
              · rw [if_pos z5] at up6
                exact ⟨n, by omega, by rw [b5 n (by omega)]; exact Or.inr ⟨hk3, rfl⟩, up6⟩
              · rw [if_neg z5] at up6
                obtain ⟨f, f1, f2, f3⟩ := s5.1 z z5
                exact ⟨f, f1, by rw [b5 f f1]; exact Or.inl f2, by rw [up6]; exact f3⟩
            · rw [if_pos (show M (5 + 3 * s) 2 = 1 from (hkk 1 (by omega)).mpr z)] at up6
              rw [up6, up5]
          · rw [if_neg hk3] at up5 up6
            rw [up5, up6]; exact s5
        · rw [o5 s e, o6 s e]; exact s5
    · rename_i hs0
      have hpar : 0 < s → M' (5 + 3 * s) 3 = nI (cP M' s) ∧ cP M' s < s ∧ cK M' (cP M' s) ≤ 1 ∧ (cK M' s = 2 → cK M' (cP M' s) = 0) := fun _ => by
        rw [pn, kn, k' p hp]
        exact ⟨u3, hp, hkp, hk2⟩
      refine ⟨⟨by rw [kn]; exact u2, by omega⟩, hpar, fun i hi => ?_, fun i hi => ?_, ?_, ?_, ?_⟩
      · rw [n5, b_0]
        constructor
        · intro y; cases y
        · intro y
          exfalso
          by_cases hin : i < s
          · have := (hO.pa hin y.2.1).1
            rw [p' i hin] at y
            omega
          · have ei : i = s := by omega
            subst ei
            rw [pn] at y; omega
      · rw [n7, b_0, b_0]
        constructor
        · intro y; cases y
        · intro y
          exfalso
          rcases y.2.2 with z | z
          · by_cases hin : i < s
            · have := (hO.pa hin y.2.1).1
              rw [p' i hin] at z
              omega
            · have ei : i = s := by omega
              subst ei
              rw [pn] at z; omega
          · cases z
      · rw [n5, n6]
        exact ⟨fun _ y => absurd rfl y, fun _ => rfl, fun _ => rfl⟩
      · exact ac_0 (by rw [oa _ _ (by omega) (by omega)]; exact fra)
      · exact ac_0 (by rw [oa _ _ (by omega) (by omega)]; exact frb)
  · have hol := hO.2.2.2.2.2.1 i hi
    by_cases hin : i < n
    · rw [k' i hin]
      rw [ul]
      by_cases hk3 : k ≤ 2
      · rw [if_pos hk3, b_or, hsn i hi, b_and, b_not _ hi, b_s1 (by omega) hi, decide_eq_false (show ¬ i = n by omega), Bool.or_false]
        by_cases e : i = p
        · subst e
          have hne : M' (5 + 3 * i) 5 ≠ 0 := b_ne0.mpr ⟨n, by omega, by rw [b5 n (by omega)]; exact Or.inr ⟨hk3, rfl⟩⟩
          rw [decide_eq_true rfl, Bool.not_true, Bool.and_false]
          exact ⟨fun y => (by cases y), fun y => absurd y.2.2 hne⟩
        · rw [decide_eq_false e, Bool.not_false, Bool.and_true, hol, o5 i e]
          exact ⟨fun y => ⟨by omega, y.2⟩, fun y => ⟨hin, y.2⟩⟩
      · rw [if_neg hk3] at up5
        rw [if_neg hk3, hol]
        have e5 : M' (5 + 3 * i) 5 = M (5 + 3 * i) 5 := by
          by_cases e : i = p
          · subst e; exact up5
          · exact o5 i e
        rw [e5]
        exact ⟨fun y => ⟨by omega, y.2⟩, fun y => ⟨hin, y.2⟩⟩
    · by_cases ei : i = n
      · subst ei
        rw [kn, n5, ul]
        by_cases hk3 : k ≤ 2
        · rw [if_pos hk3, b_or, hsn i hi, decide_eq_true rfl, Bool.or_true]
          exact ⟨fun _ => ⟨by omega, hk3, rfl⟩, fun _ => rfl⟩
        · rw [if_neg hk3, hol]
          exact ⟨fun y => by omega, fun y => by omega⟩
      · constructor
        · intro y
          exfalso
          rw [ul] at y
          by_cases hk3 : k ≤ 2
          · rw [if_pos hk3, b_or, hsn i hi, decide_eq_false ei, Bool.or_false, b_and, Bool.and_eq_true, hol] at y
            omega
          · rw [if_neg hk3, hol] at y
            omega
        · intro y; omega
  · have hol := hO.2.2.2.2.2.2 i hi
    have b6 : bt (M' 1 6) i = true ↔ bt (M 1 6) i = true ∨ (k = 2 ∧ i = n) := by
      rw [ue]
      split
      · rename_i z
        rw [b_or, hsn i hi, Bool.or_eq_true, decide_eq_true_eq]
        exact ⟨fun y => y.elim Or.inl (fun y => Or.inr ⟨z, y⟩), fun y => y.elim Or.inl (fun y => Or.inr y.2)⟩
      · rename_i z
        exact ⟨Or.inl, fun y => y.elim id (fun y => absurd y.1 z)⟩
    rw [b6, hol]
    by_cases hin : i < n
    · rw [k' i hin]
      exact ⟨fun y => y.elim (fun y => ⟨by omega, y.2⟩) (fun y => by omega), fun y => Or.inl ⟨hin, y.2⟩⟩
    · by_cases ei : i = n
      · subst ei
        rw [kn]
        exact ⟨fun y => y.elim (fun y => by omega) (fun y => ⟨by omega, y.1⟩), fun y => Or.inr ⟨y.2, rfl⟩⟩
      · exact ⟨fun y => by omega, fun y => by omega⟩
  · obtain ⟨a, b, c, d, e⟩ := hfs s (by omega) h2
    refine ⟨by rw [o5 s (by omega)]; exact a, by rw [o6 s (by omega)]; exact b, by rw [o7 s (by omega)]; exact c, by rw [oa _ _ (by omega) (by omega)]; exact d, by rw [oa _ _ (by omega) (by omega)]; exact e⟩
  · obtain ⟨a, b⟩ := hft t h1 h2
    exact ⟨by rw [ob _ _ (by omega)]; exact a, by rw [ob _ _ (by omega)]; exact b⟩
  · rw [oa _ _ (by omega) (by omega)]; exact hr
  · obtain ⟨a, b, c⟩ := hq
    exact ⟨by rw [ob _ _ (by omega)]; exact a, b, fun i x e => by rw [ob _ _ (by omega)]; exact c i x e⟩
