/-! ===== the tree of STATES; legal sets ===== -/
section
variable {C : pt_M} {n m : Nat}
theorem chO.pa (hO : chO C n m) {i : Nat} (hi : i < n) (h0 : 0 < i) : cP C i < i ∧ cK C (cP C i) ≤ 1 := ⟨((hO.s hi).2.1 h0).2.1, ((hO.s hi).2.1 h0).2.2.1⟩
theorem chO.pr (hO : chO C n m) {s i : Nat} (hs : s < n) (hi : i < 32) : bt (C (5 + 3 * s) 5) i = true ↔ i < n ∧ 0 < i ∧ cP C i = s ∧ cK C i ≤ 2 := (hO.s hs).2.2.1 i hi
theorem chO.be (hO : chO C n m) {s i : Nat} (hs : s < n) (hi : i < 32) : bt (C (5 + 3 * s) 7) i = true ↔ i < n ∧ 0 < i ∧ (cP C i = s ∨ bt (C (5 + 3 * s) 7) (cP C i) = true) := (hO.s hs).2.2.2.1 i hi
/-- beneath, as a proposition -/
def be (C : pt_M) (s i : Nat) : Prop := bt (C (5 + 3 * s) 7) i = true
theorem be_iff (hO : chO C n m) {s i : Nat} (hs : s < n) (hi : i < 32) : be C s i ↔ i < n ∧ 0 < i ∧ (cP C i = s ∨ be C s (cP C i)) := hO.be hs hi
theorem be_lt (hO : chO C n m) {s : Nat} (hs : s < n) : ∀ {i : Nat}, i < 32 → be C s i → s < i := by
  intro i
  induction i using Nat.strongRecOn with
  | ind i ih =>
    intro hi h
    obtain ⟨h1, h2, h3⟩ := (be_iff hO hs hi).mp h
    have hp := (hO.pa h1 h2).1
    rcases h3 with z | z
    · omega
    · have := ih _ hp (by omega) z
      omega
theorem be_n (hO : chO C n m) {s i : Nat} (hs : s < n) (hi : i < 32) (h : be C s i) : i < n := ((be_iff hO hs hi).mp h).1
theorem be_tr (hO : chO C n m) {s t : Nat} (hs : s < n) (ht : t < n) (hst : be C s t) : ∀ {i : Nat}, i < 32 → be C t i → be C s i := by
  intro i
  induction i using Nat.strongRecOn with
  | ind i ih =>
    intro hi h
    obtain ⟨h1, h2, h3⟩ := (be_iff hO ht hi).mp h
    have hp := (hO.pa h1 h2).1
    refine (be_iff hO hs hi).mpr ⟨h1, h2, Or.inr ?_⟩
    rcases h3 with z | z
    · rw [z]; exact hst
    · exact ih _ hp (by omega) z
/-- two above one STATE are one above the other -/
theorem be_cmp (hO : chO C n m) {s t : Nat} (hs : s < n) (ht : t < n) : ∀ {i : Nat}, i < 32 → be C s i → be C t i → s = t ∨ be C s t ∨ be C t s := by
  intro i
  induction i using Nat.strongRecOn with
  | ind i ih =>
    intro hi h g
    obtain ⟨h1, h2, h3⟩ := (be_iff hO hs hi).mp h
    obtain ⟨-, -, g3⟩ := (be_iff hO ht hi).mp g
    have hp := (hO.pa h1 h2).1
    rcases h3 with z | z
    · rcases g3 with y | y
      · exact Or.inl (z.symm.trans y)
      · rw [z] at y; exact Or.inr (Or.inr y)
    · rcases g3 with y | y
      · rw [y] at z; exact Or.inr (Or.inl z)
      · exact ih _ hp (by omega) z y
/-- one above is the PARENT or above it -/
theorem be_up (hO : chO C n m) {s i : Nat} (hs : s < n) (hi : i < 32) (h : be C s i) : cP C i = s ∨ be C s (cP C i) := ((be_iff hO hs hi).mp h).2.2
/-- at a STATE a set is as it must be: one PART of a PLAIN one, all of a BROAD one -/
def lgS (C : pt_M) (a : Int32) (s : Nat) : Prop := (cK C s = 0 → C (5 + 3 * s) 5 ≠ 0 → ∃ u, u < 32 ∧ bt (C (5 + 3 * s) 5) u = true ∧ bt a u = true ∧ ∀ v, v < 32 → bt (C (5 + 3 * s) 5) v = true → bt a v = true → v = u) ∧ (cK C s = 1 → ∀ u, u < 32 → bt (C (5 + 3 * s) 5) u = true → bt a u = true)
/-- what can be ACTIVE -/
def lgA (C : pt_M) (n : Nat) (a : Int32) : Prop := bt a 0 = true ∧ (∀ i, i < 32 → bt a i = true → i < n ∧ cK C i ≤ 2 ∧ (0 < i → bt a (cP C i) = true)) ∧ ∀ s, s < 32 → bt a s = true → lgS C a s
/-- what can be ACTIVE beneath q -/
def sbC (C : pt_M) (q : Nat) (e : Int32) : Prop := (∀ i, i < 32 → bt e i = true → be C q i ∧ cK C i ≤ 2 ∧ (cP C i = q ∨ bt e (cP C i) = true)) ∧ lgS C e q ∧ ∀ s, s < 32 → bt e s = true → lgS C e s
theorem lgS_congr {a b : Int32} {s : Nat} (h : ∀ u, u < 32 → bt (C (5 + 3 * s) 5) u = true → (bt a u = true ↔ bt b u = true)) (hl : lgS C a s) : lgS C b s := by
  refine ⟨fun h0 h1 => ?_, fun h1 u hu hp => (h u hu hp).mp (hl.2 h1 u hu hp)⟩
  obtain ⟨u, hu, p1, p2, p3⟩ := hl.1 h0 h1
  exact ⟨u, hu, p1, (h u hu p1).mp p2, fun v hv q1 q2 => p3 v hv q1 ((h v hv q1).mpr q2)⟩
/-- one above an ACTIVE one is ACTIVE -/
theorem lgA.up (hO : chO C n m) {a : Int32} (h : lgA C n a) {s : Nat} (hs : s < n) : ∀ {i : Nat}, i < 32 → bt a i = true → be C s i → bt a s = true := by
  intro i
  induction i using Nat.strongRecOn with
  | ind i ih =>
    intro hi ha hb
    obtain ⟨h1, h2, h3⟩ := (be_iff hO hs hi).mp hb
    have hp := (hO.pa h1 h2).1
    have hu := (h.2.1 i hi ha).2.2 h2
    rcases h3 with z | z
    · rw [← z]; exact hu
    · exact ih _ hp (by omega) hu z
/-- what is beneath a PLAIN ACTIVE one gives way to another such set -/
theorem lgA.swap (hO : chO C n m) {a e : Int32} {q : Nat} (h : lgA C n a) (hq : q < n) (haq : bt a q = true) (he : sbC C q e) : lgA C n ((a &&& (C (5 + 3 * q) 7 ^^^ (-1))) ||| e) := by
  have h20 := hO.n.2.2
  have bits : ∀ i, i < 32 → (bt ((a &&& (C (5 + 3 * q) 7 ^^^ (-1))) ||| e) i = true ↔ (bt a i = true ∧ ¬ be C q i) ∨ bt e i = true) := fun i hi => by
    rw [b_or, b_and, b_not _ hi]
    unfold be
    cases bt a i <;> cases bt (C (5 + 3 * q) 7) i <;> cases bt e i <;> simp
  have hnq : ¬ be C q q := fun z => absurd (be_lt hO hq (by omega) z) (Nat.lt_irrefl _)
  have hn0 : ¬ be C q 0 := fun z => absurd (be_lt hO hq (by omega) z) (Nat.not_lt_zero _)
  refine ⟨(bits 0 (by omega)).mpr (Or.inl ⟨h.1, hn0⟩), fun i hi hb => ?_, fun s hs hb => ?_⟩
  · rcases (bits i hi).mp hb with ⟨z, y⟩ | z
    · obtain ⟨p1, p2, p3⟩ := h.2.1 i hi z
      refine ⟨p1, p2, fun h0 => (bits _ (by have := (hO.pa p1 h0).1; omega)).mpr (Or.inl ⟨p3 h0, fun x => y ?_⟩)⟩
      exact (be_iff hO hq hi).mpr ⟨p1, h0, Or.inr x⟩
    · obtain ⟨p1, p2, p3⟩ := he.1 i hi z
      have hi_n := be_n hO hq hi p1
      have h0 : 0 < i := by have := be_lt hO hq hi p1; omega
      have hp := (hO.pa hi_n h0).1
      refine ⟨hi_n, p2, fun _ => (bits _ (by omega)).mpr ?_⟩
      rcases p3 with y | y
      · rw [y]; exact Or.inl ⟨haq, hnq⟩
      · exact Or.inr y
  · rcases (bits s hs).mp hb with ⟨z, y⟩ | z
    · have hsn := (h.2.1 s hs z).1
      by_cases hsq : s = q
      · subst hsq
        refine lgS_congr (fun u hu hp => ?_) he.2.1
        obtain ⟨u1, u2, u3, u4⟩ := (hO.pr hq hu).mp hp
        have hbu : be C s u := (be_iff hO hq hu).mpr ⟨u1, u2, Or.inl u3⟩
        exact ⟨fun x => (bits u hu).mpr (Or.inr x), fun x => ((bits u hu).mp x).resolve_left (fun w => w.2 hbu)⟩
      · refine lgS_congr (fun u hu hp => ?_) (h.2.2 s hs z)
        obtain ⟨u1, u2, u3, u4⟩ := (hO.pr hsn hu).mp hp
        have hnb : ¬ be C q u := fun x => by
          rcases be_up hO hq hu x with w | w
          · exact hsq (u3.symm.trans w)
          · rw [u3] at w; exact y w
        exact ⟨fun x => (bits u hu).mpr (Or.inl ⟨x, hnb⟩), fun x => (((bits u hu).mp x).resolve_right (fun w => hnb (he.1 u hu w).1)).1⟩
    · obtain ⟨p1, p2, p3⟩ := he.1 s hs z
      have hsn := be_n hO hq hs p1
      refine lgS_congr (fun u hu hp => ?_) (he.2.2 s hs z)
      obtain ⟨u1, u2, u3, u4⟩ := (hO.pr hsn hu).mp hp
      have hbu : be C q u := (be_iff hO hq hu).mpr ⟨u1, u2, Or.inr (by rw [u3]; exact p1)⟩
      exact ⟨fun x => (bits u hu).mpr (Or.inr x), fun x => ((bits u hu).mp x).resolve_left (fun w => w.2 hbu)⟩
end
