/-! ===== what is ENTERED is as it must be ===== -/
section
variable {C : pt_M} {n m : Nat}
theorem parts0 (hO : chO C n m) {s : Nat} (hs : s < n) (hk : 2 ≤ cK C s) : C (5 + 3 * s) 5 = 0 := by
  refine b_eq0.mpr fun i hi => ?_
  cases e : bt (C (5 + 3 * s) 5) i
  · rfl
  · obtain ⟨h1, h2, h3, -⟩ := (hO.pr hs hi).mp e
    have := (hO.pa h1 h2).2
    rw [h3] at this
    omega
theorem fill_sub (hO : chO C n m) {s i : Nat} (hs : s < n) (hi : i < 32) (h : bt (C (5 + 3 * s) 6) i = true) : bt (C (5 + 3 * s) 5) i = true := by
  obtain ⟨f1, f2, f3⟩ := (hO.s hs).2.2.2.2.1
  by_cases hp : C (5 + 3 * s) 5 = 0
  · rw [f3 hp, b_0] at h
    cases h
  · have hk := (hO.s hs).1.2
    by_cases h0 : cK C s = 0
    · obtain ⟨f, hf, hb, e⟩ := f1 h0 hp
      rw [e, b_s1 hf hi] at h
      rw [of_decide_eq_true h]
      exact hb
    · by_cases h1 : cK C s = 1
      · rw [← f2 h1]; exact h
      · exact absurd (parts0 hO hs (by omega)) hp
theorem part_be (hO : chO C n m) {s i : Nat} (hs : s < n) (hi : i < 32) (h : bt (C (5 + 3 * s) 5) i = true) : be C s i ∧ s < i ∧ i < n ∧ cP C i = s ∧ cK C i ≤ 2 := by
  obtain ⟨h1, h2, h3, h4⟩ := (hO.pr hs hi).mp h
  have hb : be C s i := (be_iff hO hs hi).mpr ⟨h1, h2, Or.inl h3⟩
  exact ⟨hb, be_lt hO hs hi hb, h1, h3, h4⟩
theorem flN_mono {x : Int32} {i : Nat} : ∀ {k d : Nat}, bt (flN C k x) i = true → bt (flN C (k + d) x) i = true
  | _, 0, h => h
  | k, d + 1, h => by
    have ih := flN_mono (k := k) (d := d) h
    show bt (flN C (k + d + 1) x) i = true
    rw [flN]
    split
    · rw [b_or, ih, Bool.true_or]
    · exact ih
theorem flN_x {x : Int32} {i k : Nat} (h : bt x i = true) : bt (flN C k x) i = true := by
  have := flN_mono (C := C) (x := x) (i := i) (k := 0) (d := k) h
  rwa [Nat.zero_add] at this
/-- a STATE's own place is settled before it comes -/
theorem flN_own (hO : chO C n m) {x : Int32} {s : Nat} (hs : s < n) : ∀ {d : Nat}, s + d ≤ n → bt (flN C (s + d) x) s = bt (flN C s x) s
  | 0, _ => rfl
  | d + 1, h => by
    have h20 := hO.n.2.2
    rw [← flN_own hO hs (d := d) (by omega)]
    show bt (flN C (s + d + 1) x) s = _
    rw [flN]
    split
    · rw [b_or]
      cases e : bt (C (5 + 3 * (s + d)) 6) s
      · rw [Bool.or_false]
      · have := (part_be hO (by omega) (by omega) (fill_sub hO (by omega) (by omega) e)).2.1
        omega
    · rfl
theorem flN_fill (hO : chO C n m) {x : Int32} {s i : Nat} (hs : s < n) (h : bt (flN C n x) s = true) (hf : bt (C (5 + 3 * s) 6) i = true) : bt (flN C n x) i = true := by
  have e : bt (flN C s x) s = true := by
    rw [← flN_own hO hs (d := n - s) (by omega), show s + (n - s) = n by omega]
    exact h
  have e2 : bt (flN C (s + 1) x) i = true := by
    rw [flN, if_pos e, b_or, hf, Bool.or_true]
  have := flN_mono (C := C) (x := x) (i := i) (k := s + 1) (d := n - (s + 1)) e2
  rwa [show s + 1 + (n - (s + 1)) = n by omega] at this
theorem flN_why {x : Int32} {i : Nat} : ∀ {k : Nat}, bt (flN C k x) i = true → bt x i = true ∨ ∃ s, s < k ∧ bt (flN C k x) s = true ∧ bt (C (5 + 3 * s) 6) i = true
  | 0, h => Or.inl h
  | k + 1, h => by
    rw [flN] at h
    split at h
    · rename_i hk
      rw [b_or, Bool.or_eq_true] at h
      rcases h with h | h
      · rcases flN_why h with z | ⟨s, hs, y, w⟩
        · exact Or.inl z
        · exact Or.inr ⟨s, by omega, flN_mono (d := 1) y, w⟩
      · exact Or.inr ⟨k, Nat.lt_succ_self _, flN_mono (d := 1) hk, h⟩
    · rcases flN_why h with z | ⟨s, hs, y, w⟩
      · exact Or.inl z
      · exact Or.inr ⟨s, by omega, flN_mono (d := 1) y, w⟩
/-- one of the targets is beneath -/
def ow (C : pt_M) (T : Int32) (u : Nat) : Prop := ∃ j, j < 32 ∧ be C u j ∧ bt T j = true
theorem ow_iff {T : Int32} {u : Nat} : C (5 + 3 * u) 7 &&& T ≠ 0 ↔ ow C T u := by
  rw [b_ne0]
  constructor
  · rintro ⟨i, hi, h⟩
    rw [b_and, Bool.and_eq_true] at h
    exact ⟨i, hi, h.1, h.2⟩
  · rintro ⟨i, hi, h1, h2⟩
    exact ⟨i, hi, by rw [b_and, Bool.and_eq_true]; exact ⟨h1, h2⟩⟩
theorem owB_iff {q : Nat} {T : Int32} {i : Nat} : owB C q T i = true ↔ q < i ∧ be C q i ∧ ow C T i := by
  unfold owB
  rw [Bool.and_eq_true, Bool.and_eq_true, decide_eq_true_eq, decide_eq_true_eq, ow_iff, and_assoc]
  rfl
theorem b_ptN {q : Nat} {T : Int32} {i : Nat} (hi : i < 32) : ∀ {k : Nat}, k ≤ 32 → (bt (ptN C q T k) i = true ↔ i < k ∧ owB C q T i = true)
  | 0, _ => by
    rw [ptN, b_0]
    exact ⟨fun h => (by cases h), fun h => absurd h.1 (Nat.not_lt_zero _)⟩
  | k + 1, hk => by
    have ih := b_ptN (q := q) (T := T) hi (k := k) (by omega)
    rw [ptN]
    split
    · rename_i hw
      rw [b_or, b_s1 (by omega) hi, Bool.or_eq_true, ih, decide_eq_true_eq]
      constructor
      · rintro (⟨a, b⟩ | rfl)
        · exact ⟨by omega, b⟩
        · exact ⟨by omega, hw⟩
      · rintro ⟨a, b⟩
        by_cases e : i = k
        · exact Or.inr e
        · exact Or.inl ⟨by omega, b⟩
    · rename_i hw
      rw [ih]
      constructor
      · rintro ⟨a, b⟩; exact ⟨by omega, b⟩
      · rintro ⟨a, b⟩
        refine ⟨?_, b⟩
        rcases Nat.lt_or_eq_of_le (Nat.le_of_lt_succ a) with z | rfl
        · exact z
        · exact absurd b hw
theorem b_tfN {q : Nat} {T : Int32} {i : Nat} : ∀ {k : Nat}, (bt (tfN C n q T k) i = true ↔ bt T i = true ∨ ∃ s, s < k ∧ owB C q T s = true ∧ C (5 + 3 * s) 2 = 1 ∧ bt (paF C n T s) i = true)
  | 0 => by
    rw [tfN]
    exact ⟨Or.inl, fun h => h.elim id (fun ⟨s, hs, _⟩ => absurd hs (Nat.not_lt_zero _))⟩
  | k + 1 => by
    have ih := b_tfN (q := q) (T := T) (i := i) (k := k)
    rw [tfN]
    split
    · rename_i hw
      rw [b_or, Bool.or_eq_true, ih]
      constructor
      · rintro ((a | ⟨s, hs, y⟩) | b)
        · exact Or.inl a
        · exact Or.inr ⟨s, by omega, y⟩
        · exact Or.inr ⟨k, by omega, hw.1, hw.2, b⟩
      · rintro (a | ⟨s, hs, y1, y2, y3⟩)
        · exact Or.inl (Or.inl a)
        · by_cases e : s = k
          · subst e; exact Or.inr y3
          · exact Or.inl (Or.inr ⟨s, by omega, y1, y2, y3⟩)
    · rename_i hw
      rw [ih]
      constructor
      · rintro (a | ⟨s, hs, y⟩)
        · exact Or.inl a
        · exact Or.inr ⟨s, by omega, y⟩
      · rintro (a | ⟨s, hs, y1, y2, y3⟩)
        · exact Or.inl a
        · by_cases e : s = k
          · subst e; exact absurd ⟨y1, y2⟩ hw
          · exact Or.inr ⟨s, by omega, y1, y2, y3⟩
theorem b_paF {T : Int32} {s i : Nat} (hi : i < 32) : bt (paF C n T s) i = true ↔ bt (C (5 + 3 * s) 5) i = true ∧ bt T i = false ∧ ¬ ((s < i ∧ i < n) ∧ ow C T i) := by
  unfold paF
  rw [b_mk hi, ← ow_iff]
  simp only [Bool.and_eq_true, Bool.not_eq_true', Bool.and_eq_false_iff, decide_eq_false_iff_not]
  constructor
  · rintro ⟨⟨a, b⟩, c⟩
    exact ⟨a, b, fun z => c.elim (fun y => y z.1) (fun y => y z.2)⟩
  · rintro ⟨a, b, c⟩
    refine ⟨⟨a, b⟩, ?_⟩
    by_cases y : s < i ∧ i < n
    · exact Or.inr (fun w => c ⟨y, w⟩)
    · exact Or.inl y
end
