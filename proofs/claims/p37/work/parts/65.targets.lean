/-! ===== targets are good: one STATE, a RECORD ===== -/
section
variable {C : pt_M} {n m : Nat}
theorem part_uniq (hO : chO C n m) {s u v j : Nat} (hu : u < n) (hv : v < n) (hj : j < 32) (u0 : 0 < u) (v0 : 0 < v) (eu : cP C u = s) (ev : cP C v = s) (hu1 : u = j ∨ be C u j) (hv1 : v = j ∨ be C v j) : u = v := by
  have h20 := hO.n.2.2
  have su : s < u := by have := (hO.pa hu u0).1; omega
  have sv : s < v := by have := (hO.pa hv v0).1; omega
  have no : ∀ x y : Nat, x < n → y < n → s < x → cP C y = s → ¬ be C x y := fun x y hx hy sx ey h => by
    rcases be_up hO hx (by omega) h with z | z
    · omega
    · have := be_lt hO hx (by omega) z
      omega
  rcases hu1 with a | a
  · rcases hv1 with b | b
    · omega
    · rw [← a] at b; exact absurd b (no v u hv hu sv eu)
  · rcases hv1 with b | b
    · rw [← b] at a; exact absurd a (no u v hu hv su ev)
    · rcases be_cmp hO hu hv hj a b with z | z | z
      · exact z
      · exact absurd z (no u v hu hv su ev)
      · exact absurd z (no v u hv hu sv eu)
/-- a target or above one -/
theorem tow {T : Int32} {u : Nat} (hu : u < 32) (h : bt T u = true ∨ ow C T u) : ∃ j, j < 32 ∧ bt T j = true ∧ (u = j ∨ be C u j) := by
  rcases h with h | ⟨j, hj, h1, h2⟩
  · exact ⟨u, hu, h, Or.inl rfl⟩
  · exact ⟨j, hj, h2, Or.inr h1⟩
theorem gdT_one (hO : chO C n m) {q x : Nat} (hx : x < n) (hq : q < n) (hb : be C q x) (hk : cK C x ≤ 2) : gdT C n q (s1 x) := by
  have h20 := hO.n.2.2
  have e : ∀ i, i < 32 → (bt (s1 x) i = true ↔ i = x) := fun i hi => by rw [b_s1 (by omega) hi, decide_eq_true_eq]
  refine ⟨fun i hi h => ?_, fun i j hi hj h1 h2 h3 => ?_, fun s hs h0 hsq u v hu hv pu pv tu tv => ?_, x, by omega, hb, (e x (by omega)).mpr rfl⟩
  · rw [(e i hi).mp h]; exact ⟨hb, hk⟩
  · rw [(e i hi).mp h1, (e j hj).mp h2] at h3
    exact absurd (be_lt hO hx (by omega) h3) (Nat.lt_irrefl _)
  · obtain ⟨j, hj, a1, a2⟩ := tow hu tu
    obtain ⟨k, hk', b1, b2⟩ := tow hv tv
    rw [(e j hj).mp a1] at a2
    rw [(e k hk').mp b1] at b2
    obtain ⟨-, p1, p2, p3, -⟩ := part_be hO hs hu pu
    obtain ⟨-, r1, r2, r3, -⟩ := part_be hO hs hv pv
    exact part_uniq hO p2 r2 (show x < 32 by omega) (by omega) (by omega) p3 r3 a2 b2
/-- from a SCOPE further up -/
theorem gdT_up (hO : chO C n m) {q r : Nat} {T : Int32} (hq : q < n) (hr : r < n) (hqr : r = q ∨ be C q r) (h : gdT C n r T) : gdT C n q T := by
  have h20 := hO.n.2.2
  rcases hqr with rfl | hqr
  · exact h
  obtain ⟨h1, h2, h3, h4⟩ := h
  refine ⟨fun i hi hb => ⟨be_tr hO hq hr hqr hi (h1 i hi hb).1, (h1 i hi hb).2⟩, h2, fun s hs h0 hsq u v hu hv pu pv tu tv => ?_, ow_up hO hq hr hqr h4⟩
  by_cases hsr : s = r ∨ be C r s
  · exact h3 s hs h0 hsr u v hu hv pu pv tu tv
  · obtain ⟨q0, p1, p2, p3, -⟩ := part_be hO hs hu pu
    obtain ⟨q1, r1, r2, r3, -⟩ := part_be hO hs hv pv
    have low : ∀ w, w < n → be C s w → (∃ j, j < 32 ∧ bt T j = true ∧ (w = j ∨ be C w j)) → be C s r ∧ ∃ j, j < 32 ∧ bt T j = true ∧ (w = j ∨ be C w j) ∧ be C r j := fun w hw hsw ⟨j, hj, a1, a2⟩ => by
      have hrj := (h1 j hj a1).1
      have hsj : be C s j := by
        rcases a2 with y | y
        · rw [← y]; exact hsw
        · exact be_tr hO hs hw hsw hj y
      rcases be_cmp hO hs hr hj hsj hrj with z | z | z
      · exact absurd (Or.inl z) hsr
      · exact ⟨z, j, hj, a1, a2, hrj⟩
      · exact absurd (Or.inr z) hsr
    obtain ⟨hsr', j, hj, a1, a2, a3⟩ := low u p2 q0 (tow hu tu)
    obtain ⟨-, k, hk, b1, b2, b3⟩ := low v r2 q1 (tow hv tv)
    obtain ⟨w, w1, w2, w3, w4⟩ := be_part hO hs (by omega) hsr'
    have wj : ∀ j, j < 32 → be C r j → w = j ∨ be C w j := fun j hj hrj => by
      rcases w4 with y | y
      · rw [y]; exact Or.inr hrj
      · exact Or.inr (be_tr hO w1 hr y hj hrj)
    have e1 := part_uniq hO p2 w1 hj (by omega) w2 p3 w3 a2 (wj j hj a3)
    have e2 := part_uniq hO r2 w1 hk (by omega) w2 r3 w3 b2 (wj k hk b3)
    omega
/-- RECORDS are good targets -/
def rcO (C : pt_M) (n : Nat) (rs : Nat → Int32) : Prop := ∀ h, h < n → 3 ≤ cK C h → rs h = 0 ∨ gdT C n (cP C h) (rs h)
theorem rcF_good (hO : chO C n m) {a : Int32} {h : Nat} (hh : h < n) (hk : 3 ≤ cK C h) (hA : lgA C n a) (hp : bt a (cP C h) = true) : rcF C a h = 0 ∨ gdT C n (cP C h) (rcF C a h) := by
  have h20 := hO.n.2.2
  have h0 : 0 < h := hO.pos (by omega)
  have hpa := hO.pa hh h0
  by_cases hz : rcF C a h = 0
  · exact Or.inl hz
  refine Or.inr ?_
  generalize hq : cP C h = q at hp hpa ⊢
  have hqn : q < n := by omega
  have sub : ∀ i, i < 32 → bt (rcF C a h) i = true → be C q i ∧ cK C i ≤ 2 ∧ bt a i = true ∧ i < n ∧ (cP C i = q ∨ C (5 + 3 * i) 5 = 0) := fun i hi hb => by
    unfold rcF at hb
    rw [hq] at hb
    split at hb
    · rw [b_and, Bool.and_eq_true] at hb
      obtain ⟨p0, p1, p2, p3, p4⟩ := part_be hO hqn hi hb.1
      exact ⟨p0, p4, hb.2, p2, Or.inl p3⟩
    · rw [b_and, b_and, Bool.and_eq_true, Bool.and_eq_true] at hb
      obtain ⟨l1, l2, l3⟩ := (hO.2.2.2.2.2.1 i hi).mp hb.1.2
      exact ⟨hb.1.1, l2, hb.2, l1, Or.inr l3⟩
  have par : (∀ i, i < 32 → bt (rcF C a h) i = true → cP C i = q) ∨ (∀ i, i < 32 → bt (rcF C a h) i = true → C (5 + 3 * i) 5 = 0) := by
    unfold rcF
    rw [hq]
    split
    · refine Or.inl fun i hi hb => ?_
      rw [b_and, Bool.and_eq_true] at hb
      exact (part_be hO hqn hi hb.1).2.2.2.1
    · refine Or.inr fun i hi hb => ?_
      rw [b_and, b_and, Bool.and_eq_true, Bool.and_eq_true] at hb
      exact ((hO.2.2.2.2.2.1 i hi).mp hb.1.2).2.2
  refine ⟨fun i hi hb => ⟨(sub i hi hb).1, (sub i hi hb).2.1⟩, fun i j hi hj b1 b2 hij => ?_, fun s hs hs0 hsq u v hu hv pu pv tu tv => ?_, ?_⟩
  · have hin := (sub i hi b1).2.2.2.1
    rcases par with hp1 | hp1
    · have e1 := hp1 i hi b1
      have e2 := hp1 j hj b2
      have hi0 : 0 < i := by have := be_lt hO hqn hi (sub i hi b1).1; omega
      have := (hO.pa hin hi0).1
      rcases be_up hO hin hj hij with z | z
      · omega
      · have := be_lt hO hin (by omega) z
        omega
    · obtain ⟨u, u1, u2, u3, u4⟩ := be_part hO hin hj hij
      have hur : cK C u ≤ 2 := by
        rcases u4 with y | y
        · rw [y]; exact (sub j hj b2).2.1
        · have := be_k hO u1 hj y; omega
      have : bt (C (5 + 3 * i) 5) u = true := (hO.pr hin (by omega)).mpr ⟨u1, u2, u3, hur⟩
      rw [hp1 i hi b1, b_0] at this
      cases this
  · obtain ⟨q0, p1, p2, p3, p4⟩ := part_be hO hs hu pu
    obtain ⟨q1, r1, r2, r3, r4⟩ := part_be hO hs hv pv
    have act : ∀ w, w < 32 → w < n → (bt (rcF C a h) w = true ∨ ow C (rcF C a h) w) → bt a w = true := fun w hw hwn tw => by
      obtain ⟨j, hj, a1, a2⟩ := tow hw tw
      rcases a2 with y | y
      · rw [y]; exact (sub j hj a1).2.2.1
      · exact hA.up hO hwn hj (sub j hj a1).2.2.1 y
    have au := act u hu p2 tu
    have av := act v hv r2 tv
    have as : bt a s = true := by
      have := (hA.2.1 u hu au).2.2 (by omega)
      rw [p3] at this
      exact this
    have hne : C (5 + 3 * s) 5 ≠ 0 := fun z => by
      rw [z, b_0] at pu
      cases pu
    obtain ⟨w, hw, w1, w2, w3⟩ := (hA.2.2 s (by omega) as).1 hs0 hne
    rw [w3 u hu pu au, w3 v hv pv av]
  · obtain ⟨i, hi, hb⟩ := b_ne0.mp hz
    exact ⟨i, hi, (sub i hi hb).1, hb⟩
/-- where a TRANSITION goes -/
theorem tgF_good (hO : chO C n m) {rs : Nat → Int32} {t : Nat} (hrs : rcO C n rs) (ht : t < m) (hto : C (65 + 2 * t) 4 ≠ -1) : gdT C n (tS C t) (tgF C rs t) := by
  have h20 := hO.n.2.2
  obtain ⟨⟨-, hF, hFk⟩, h2, -⟩ := hO.t ht
  obtain ⟨⟨-, hT0, hTn⟩, ⟨-, hS, hSk⟩, hSF, hST⟩ := h2 hto
  unfold tgF
  have hk4 := (hO.s hTn).1.2
  split
  · rename_i hm
    have hm3 : 3 ≤ cK C (tT C t) := by
      rcases hm with z | z
      · have := (hO.k hTn (k := 3) (by omega)).mp z; omega
      · have := (hO.k hTn (k := 4) (by omega)).mp z; omega
    have hpa := hO.pa hTn hT0
    have hup : cP C (tT C t) = tS C t ∨ be C (tS C t) (cP C (tT C t)) := be_up hO hS (by omega) hST
    split
    · split
      · rename_i he
        rw [he]
        obtain ⟨f1, -, -⟩ := (hO.s hS).2.2.2.2.1
        have hne : C (5 + 3 * tS C t) 5 ≠ 0 := by
          obtain ⟨u, u1, u2, u3, u4⟩ := be_part hO hS (by omega) hSF
          refine b_ne0.mpr ⟨u, by omega, (hO.pr hS (by omega)).mpr ⟨u1, u2, u3, ?_⟩⟩
          rcases u4 with y | y
          · rw [y]; omega
          · have := be_k hO u1 (by omega) y; omega
        obtain ⟨f, hf, hb, e⟩ := f1 hSk hne
        obtain ⟨p0, p1, p2, p3, p4⟩ := part_be hO hS hf hb
        rw [e]
        exact gdT_one hO p2 hS p0 p4
      · rename_i he
        exact gdT_one hO (by omega) hS (hup.resolve_left he) (by omega)
    · rename_i hz
      exact gdT_up hO hS (by omega) hup ((hrs _ hTn hm3).resolve_left hz)
  · rename_i hm
    refine gdT_one hO hTn hS hST ?_
    have a3 : cK C (tT C t) ≠ 3 := fun z => hm (Or.inl ((hO.k hTn (k := 3) (by omega)).mpr z))
    have a4 : cK C (tT C t) ≠ 4 := fun z => hm (Or.inr ((hO.k hTn (k := 4) (by omega)).mpr z))
    omega
end
