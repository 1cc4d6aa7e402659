/-! ===== going INTO good targets makes a legal set ===== -/
section
variable {C : pt_M} {n m : Nat}
/-- targets that go together -/
def gdT (C : pt_M) (n q : Nat) (T : Int32) : Prop := (∀ i, i < 32 → bt T i = true → be C q i ∧ cK C i ≤ 2) ∧ (∀ i j, i < 32 → j < 32 → bt T i = true → bt T j = true → ¬ be C i j) ∧ (∀ s, s < n → cK C s = 0 → s = q ∨ be C q s → ∀ u v, u < 32 → v < 32 → bt (C (5 + 3 * s) 5) u = true → bt (C (5 + 3 * s) 5) v = true → bt T u = true ∨ ow C T u → bt T v = true ∨ ow C T v → u = v) ∧ ow C T q
theorem be_k (hO : chO C n m) {s : Nat} (hs : s < n) : ∀ {i : Nat}, i < 32 → be C s i → cK C s ≤ 1 := by
  intro i
  induction i using Nat.strongRecOn with
  | ind i ih =>
    intro hi h
    obtain ⟨h1, h2, h3⟩ := (be_iff hO hs hi).mp h
    have hp := hO.pa h1 h2
    rcases h3 with z | z
    · rw [← z]; exact hp.2
    · exact ih _ hp.1 (by omega) z
/-- the PART on the way down -/
theorem be_part (hO : chO C n m) {s : Nat} (hs : s < n) : ∀ {j : Nat}, j < 32 → be C s j → ∃ u, u < n ∧ 0 < u ∧ cP C u = s ∧ (u = j ∨ be C u j) := by
  intro j
  induction j using Nat.strongRecOn with
  | ind j ih =>
    intro hj h
    have h20 := hO.n.2.2
    obtain ⟨h1, h2, h3⟩ := (be_iff hO hs hj).mp h
    have hp := hO.pa h1 h2
    rcases h3 with z | z
    · exact ⟨j, h1, h2, z, Or.inl rfl⟩
    · obtain ⟨u, u1, u2, u3, u4⟩ := ih _ hp.1 (by omega) z
      refine ⟨u, u1, u2, u3, Or.inr ((be_iff hO u1 hj).mpr ⟨h1, h2, ?_⟩)⟩
      rcases u4 with y | y
      · exact Or.inl y.symm
      · exact Or.inr y
theorem be_pa (hO : chO C n m) {i : Nat} (h1 : i < n) (h2 : 0 < i) : be C (cP C i) i := by
  have h20 := hO.n.2.2
  have hp := hO.pa h1 h2
  exact (be_iff hO (by omega) (by omega)).mpr ⟨h1, h2, Or.inl rfl⟩
theorem ow_up (hO : chO C n m) {T : Int32} {s u : Nat} (hs : s < n) (hu : u < n) (h : be C s u) (hw : ow C T u) : ow C T s := by
  obtain ⟨j, hj, h1, h2⟩ := hw
  exact ⟨j, hj, be_tr hO hs hu h hj h1, h2⟩
theorem en_legal (hO : chO C n m) {q : Nat} {T : Int32} (hq : q < n) (hk : cK C q = 0) (hT : gdT C n q T) : sbC C q (enF C n q T) := by
  have h20 := hO.n.2.2
  obtain ⟨t1, t2, t3, t4⟩ := hT
  -- the parts of the set
  have bE : ∀ i, i < 32 → (bt (enF C n q T) i = true ↔ (i < n ∧ be C q i ∧ ow C T i) ∨ bt (flN C n (tfN C n q T n)) i = true) := fun i hi => by
    unfold enF
    rw [b_or, Bool.or_eq_true, b_ptN hi (by omega), owB_iff]
    constructor
    · rintro (⟨a, -, b⟩ | b)
      · exact Or.inl ⟨a, b⟩
      · exact Or.inr b
    · rintro (⟨a, b, c⟩ | b)
      · exact Or.inl ⟨a, be_lt hO hq hi b, b, c⟩
      · exact Or.inr b
  have bTF : ∀ i, i < 32 → (bt (tfN C n q T n) i = true ↔ bt T i = true ∨ ∃ s, s < n ∧ be C q s ∧ ow C T s ∧ cK C s = 1 ∧ bt (C (5 + 3 * s) 5) i = true ∧ bt T i = false ∧ ¬ ow C T i) := fun i hi => by
    rw [b_tfN]
    constructor
    · rintro (a | ⟨s, hs, y1, y2, y3⟩)
      · exact Or.inl a
      · obtain ⟨-, w1, w2⟩ := owB_iff.mp y1
        obtain ⟨z1, z2, z3⟩ := (b_paF hi).mp y3
        obtain ⟨-, p1, p2, -⟩ := part_be hO hs hi z1
        exact Or.inr ⟨s, hs, w1, w2, (hO.k hs (k := 1) (by omega)).mp y2, z1, z2, fun x => z3 ⟨⟨p1, p2⟩, x⟩⟩
    · rintro (a | ⟨s, hs, w1, w2, y2, z1, z2, z3⟩)
      · exact Or.inl a
      · exact Or.inr ⟨s, hs, owB_iff.mpr ⟨be_lt hO hq (by omega) w1, w1, w2⟩, (hO.k hs (k := 1) (by omega)).mpr y2, (b_paF hi).mpr ⟨z1, z2, fun x => z3 x.2⟩⟩
  have nTow : ∀ i, i < 32 → bt T i = true → ¬ ow C T i := fun i hi h ⟨j, hj, a, b⟩ => t2 i j hi hj h b a
  have pTF : ∀ i, i < 32 → bt (tfN C n q T n) i = true → be C q i ∧ cK C i ≤ 2 ∧ ¬ ow C T i ∧ (cP C i = q ∨ (be C q (cP C i) ∧ ow C T (cP C i))) := fun i hi h => by
    rcases (bTF i hi).mp h with a | ⟨s, hs, w1, w2, y2, z1, z2, z3⟩
    · obtain ⟨b1, b2⟩ := t1 i hi a
      have hin := be_n hO hq hi b1
      have h0 : 0 < i := by have := be_lt hO hq hi b1; omega
      refine ⟨b1, b2, nTow i hi a, ?_⟩
      rcases be_up hO hq hi b1 with y | y
      · exact Or.inl y
      · exact Or.inr ⟨y, i, hi, be_pa hO hin h0, a⟩
    · obtain ⟨p0, p1, p2, p3, p4⟩ := part_be hO hs hi z1
      refine ⟨be_tr hO hq hs w1 hi p0, p4, z3, Or.inr ?_⟩
      rw [p3]
      exact ⟨w1, w2⟩
  have pF : ∀ i, i < 32 → bt (flN C n (tfN C n q T n)) i = true → be C q i ∧ cK C i ≤ 2 ∧ ¬ ow C T i ∧ (cP C i = q ∨ (be C q (cP C i) ∧ ow C T (cP C i)) ∨ bt (flN C n (tfN C n q T n)) (cP C i) = true) ∧ (bt (tfN C n q T n) i = true ∨ (cP C i < n ∧ bt (flN C n (tfN C n q T n)) (cP C i) = true ∧ bt (C (5 + 3 * cP C i) 6) i = true)) := by
    intro i
    induction i using Nat.strongRecOn with
    | ind i ih =>
      intro hi h
      rcases flN_why h with a | ⟨s, hs, y, w⟩
      · obtain ⟨x1, x2, x3, x4⟩ := pTF i hi a
        exact ⟨x1, x2, x3, x4.elim Or.inl (fun z => Or.inr (Or.inl z)), Or.inl a⟩
      · obtain ⟨p0, p1, p2, p3, p4⟩ := part_be hO hs hi (fill_sub hO hs hi w)
        obtain ⟨x1, x2, x3, -⟩ := ih s p1 (by omega) y
        rw [p3]
        exact ⟨be_tr hO hq hs x1 hi p0, p4, fun z => x3 (ow_up hO hs p2 p0 z), Or.inr (Or.inr y), Or.inr ⟨hs, y, w⟩⟩
  have nqq : ¬ be C q q := fun z => absurd (be_lt hO hq (by omega) z) (Nat.lt_irrefl _)
  -- at a PLAIN one on the way
  have way0 : ∀ s, s < n → cK C s = 0 → (s = q ∨ be C q s) → ow C T s → ∃ u, u < 32 ∧ bt (C (5 + 3 * s) 5) u = true ∧ bt (enF C n q T) u = true ∧ ∀ v, v < 32 → bt (C (5 + 3 * s) 5) v = true → bt (enF C n q T) v = true → v = u := fun s hs h0 hsq hw => by
    obtain ⟨j, hj, b1, b2⟩ := hw
    obtain ⟨u, u1, u2, u3, u4⟩ := be_part hO hs hj b1
    have hu32 : u < 32 := by omega
    have hur : cK C u ≤ 2 := by
      rcases u4 with y | y
      · rw [y]; exact (t1 j hj b2).2
      · have := be_k hO u1 hj y; omega
    have hup : bt (C (5 + 3 * s) 5) u = true := (hO.pr hs hu32).mpr ⟨u1, u2, u3, hur⟩
    have hsu := (part_be hO hs hu32 hup).1
    have hqu : be C q u := by
      rcases hsq with y | y
      · rw [← y]; exact hsu
      · exact be_tr hO hq hs y hu32 hsu
    have hTu : bt T u = true ∨ ow C T u := by
      rcases u4 with y | y
      · rw [y]; exact Or.inl b2
      · exact Or.inr ⟨j, hj, y, b2⟩
    refine ⟨u, hu32, hup, (bE u hu32).mpr ?_, fun v hv v1 v2 => ?_⟩
    · rcases hTu with y | y
      · exact Or.inr (flN_x ((bTF u hu32).mpr (Or.inl y)))
      · exact Or.inl ⟨u1, hqu, y⟩
    · obtain ⟨p0, p1, p2, p3, p4⟩ := part_be hO hs hv v1
      refine t3 s hs h0 hsq v u hv hu32 v1 hup ?_ hTu
      rcases (bE v hv).mp v2 with y | y
      · exact Or.inr y.2.2
      · rcases (pF v hv y).2.2.2.2 with z | ⟨z1, z2, z3⟩
        · rcases (bTF v hv).mp z with w | ⟨s', hs', w1, w2, w3, w4, w5, w6⟩
          · exact Or.inl w
          · have := (part_be hO hs' hv w4).2.2.2.1
            rw [← this, p3] at w3
            omega
        · rw [p3] at z2
          have hx := pF s (by omega) z2
          exact absurd ⟨j, hj, b1, b2⟩ hx.2.2.1
  refine ⟨fun i hi h => ?_, ⟨fun _ _ => way0 q hq hk (Or.inl rfl) t4, fun h1 => by omega⟩, fun s hs h => ?_⟩
  · rcases (bE i hi).mp h with ⟨a1, a2, a3⟩ | a
    · have h0 : 0 < i := by have := be_lt hO hq hi a2; omega
      have hp := hO.pa a1 h0
      obtain ⟨j, hj, c1, c2⟩ := id a3
      refine ⟨a2, by have := be_k hO a1 hj c1; omega, ?_⟩
      rcases be_up hO hq hi a2 with y | y
      · exact Or.inl y
      · exact Or.inr ((bE _ (by omega)).mpr (Or.inl ⟨by omega, y, ow_up hO (by omega) a1 (be_pa hO a1 h0) a3⟩))
    · obtain ⟨x1, x2, x3, x4, -⟩ := pF i hi a
      have hin := be_n hO hq hi x1
      have h0 : 0 < i := by have := be_lt hO hq hi x1; omega
      have hp := hO.pa hin h0
      refine ⟨x1, x2, ?_⟩
      rcases x4 with y | y | y
      · exact Or.inl y
      · exact Or.inr ((bE _ (by omega)).mpr (Or.inl ⟨by omega, y⟩))
      · exact Or.inr ((bE _ (by omega)).mpr (Or.inr y))
  · rcases (bE s hs).mp h with ⟨a1, a2, a3⟩ | a
    · refine ⟨fun h0 _ => way0 s a1 h0 (Or.inr a2) a3, fun h1 u hu hp => (bE u hu).mpr ?_⟩
      obtain ⟨p0, p1, p2, p3, p4⟩ := part_be hO a1 hu hp
      by_cases hT : bt T u = true
      · exact Or.inr (flN_x ((bTF u hu).mpr (Or.inl hT)))
      · by_cases hw : ow C T u
        · exact Or.inl ⟨p2, be_tr hO hq a1 a2 hu p0, hw⟩
        · exact Or.inr (flN_x ((bTF u hu).mpr (Or.inr ⟨s, a1, a2, a3, h1, hp, by simpa using hT, hw⟩)))
    · obtain ⟨x1, x2, x3, -, -⟩ := pF s hs a
      have hsn := be_n hO hq hs x1
      obtain ⟨f1, f2, f3⟩ := (hO.s hsn).2.2.2.2.1
      refine ⟨fun h0 hp => ?_, fun h1 u hu hp => (bE u hu).mpr (Or.inr (flN_fill hO hsn a (by rw [f2 h1]; exact hp)))⟩
      obtain ⟨f, hf, hb, e⟩ := f1 h0 hp
      refine ⟨f, hf, hb, (bE f hf).mpr (Or.inr (flN_fill hO hsn a (by rw [e, b_s1 hf hf]; exact decide_eq_true rfl))), fun v hv v1 v2 => ?_⟩
      obtain ⟨p0, p1, p2, p3, p4⟩ := part_be hO hsn hv v1
      rcases (bE v hv).mp v2 with y | y
      · exact absurd (ow_up hO hsn p2 p0 y.2.2) x3
      · rcases (pF v hv y).2.2.2.2 with z | ⟨z1, z2, z3⟩
        · rcases (bTF v hv).mp z with w | ⟨s', hs', w1, w2, w3, w4, w5, w6⟩
          · exact absurd ⟨v, hv, p0, w⟩ x3
          · have := (part_be hO hs' hv w4).2.2.2.1
            rw [← this, p3] at w2
            exact absurd w2 x3
        · rw [p3, e, b_s1 hf hv] at z3
          exact of_decide_eq_true z3
end
