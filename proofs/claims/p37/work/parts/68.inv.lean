/-! ===== what every call keeps ===== -/
section
variable {C : pt_M} {n m : Nat}
def agO (k : Nat) (c : pC) : Prop := ∀ s, s < 20 → (bt c.1 s = true → ∃ g, g ≤ k ∧ c.2.1 s = nI g) ∧ (bt c.1 s = false → c.2.1 s = -1)
def invC (C : pt_M) (n k : Nat) (c : pC) : Prop := lgA C n c.1 ∧ rcO C n c.2.2.1 ∧ agO k c
theorem beq_iff {a b : Bool} (h : a = true ↔ b = true) : a = b := by
  cases a <;> cases b <;> simp_all
theorem stC_inv (hO : chO C n m) {k cs : Nat} {c : pC} (h : invC C n k c) : invC C n k (stC C n m c cs) := by
  have h20 := hO.n.2.2
  obtain ⟨hA, hR, hG⟩ := h
  obtain ⟨hall, hpw⟩ := tkC_all (cs := cs) (c := c) hO
  unfold stC
  split
  · exact ⟨hA, hR, hG⟩
  dsimp only
  generalize hL : tkC C n m c cs = L at hall hpw ⊢
  generalize hlf : lfF C c.1 L 0 = lf
  have blf : ∀ b, bt lf b = true ↔ ∃ t, t ∈ L ∧ bt (lbF C c.1 t) b = true := fun b => by
    rw [← hlf, lfF_b, b_0]
    exact ⟨fun z => z.elim (fun z => by cases z) id, Or.inr⟩
  have lfa : ∀ b, bt lf b = true → bt c.1 b = true := fun b hb => by
    obtain ⟨t, ht, z⟩ := (blf b).mp hb
    unfold lbF at z
    split at z
    · rw [b_0] at z; cases z
    · rw [b_and, Bool.and_eq_true] at z; exact z.2
  have cn : ∀ b, b < 32 → bt c.1 b = true → b < n := fun b hb z => (hA.2.1 b hb z).1
  -- RECORDS
  have er : (lvN C lf n (mrN C lf n c)).2.2.1 = (mrN C lf n c).2.2.1 := (lvN_a (b := 0) (by omega) (by omega)).2.2
  have hR' : rcO C n (lvN C lf n (mrN C lf n c)).2.2.1 := fun h hh hk => by
    rw [er, mrN_at]
    split
    · rename_i hz
      exact rcF_good hO hh hk hA (lfa _ hz.2)
    · exact hR h hh hk
  generalize hz : doF C n L (lvN C lf n (mrN C lf n c), 0) = z
  have dz : ∀ b, (z.1.1 = (lvN C lf n (mrN C lf n c)).1 ∧ z.1.2.1 = (lvN C lf n (mrN C lf n c)).2.1 ∧ z.1.2.2.1 = (lvN C lf n (mrN C lf n c)).2.2.1) ∧ (bt z.2 b = true ↔ ∃ t, t ∈ L ∧ C (65 + 2 * t) 4 ≠ -1 ∧ bt (enF C n (tS C t) (tgF C (lvN C lf n (mrN C lf n c)).2.2.1 t)) b = true) := fun b => by
    have := doF_a (C := C) (n := n) (b := b) (L := L) (z := (lvN C lf n (mrN C lf n c), 0))
    rw [hz] at this
    refine ⟨this.1, this.2.trans ⟨fun x => x.elim (fun x => ?_) id, Or.inr⟩⟩
    have x : bt 0 b = true := x
    rw [b_0] at x
    cases x
  have ae : ∀ b, b < 32 → bt (etN C z.2 n z.1).1 b = ((bt c.1 b && !(decide (b < n) && bt lf b)) || (decide (b < n) && bt z.2 b)) := fun b hb => by
    rw [(etN_a hb (by omega)).1, (dz b).1.1, (lvN_a hb (by omega)).1]
    rfl
  -- what is ACTIVE
  have hsc : ∀ t, t ∈ L → C (65 + 2 * t) 4 ≠ -1 → tS C t < n ∧ bt c.1 (tS C t) = true := fun t ht hne => by
    obtain ⟨h1, h2⟩ := hall t ht
    obtain ⟨⟨-, hF, -⟩, h3, -⟩ := hO.t h1
    obtain ⟨-, ⟨-, hS, hSk⟩, hSF, -⟩ := h3 hne
    exact ⟨hS, hA.up hO hS (by omega) h2 hSF⟩
  have hsw := swF_ok hO hR' (L := L) hA (fun t ht => ⟨(hall t ht).1, fun hne => (hsc t ht hne).2⟩) (List.Pairwise.imp_of_mem (fun {o p} ho hp hd => apt_of hO (hall o ho).1 (hall p hp).1 (hall o ho).2 (hall p hp).2 hd) hpw)
  have eA : (etN C z.2 n z.1).1 = swF C n (lvN C lf n (mrN C lf n c)).2.2.1 L c.1 := by
    refine b_ext fun b hb => ?_
    rw [ae b hb]
    refine beq_iff ?_
    rw [hsw.2 b hb]
    simp only [Bool.or_eq_true, Bool.and_eq_true, Bool.not_eq_true', Bool.and_eq_false_iff, decide_eq_true_eq, decide_eq_false_iff_not]
    constructor
    · rintro (⟨x, y⟩ | ⟨x, y⟩)
      · refine Or.inl ⟨x, fun t ht hne hbe => ?_⟩
        rcases y with y | y
        · exact y (cn b hb x)
        · have : bt lf b = true := (blf b).mpr ⟨t, ht, by unfold lbF; rw [if_neg hne, b_and, x, Bool.and_true]; exact hbe⟩
          rw [this] at y
          cases y
      · exact Or.inr ((dz b).2.mp y)
    · rintro (⟨x, y⟩ | x)
      · refine Or.inl ⟨x, Or.inr ?_⟩
        cases e : bt lf b
        · rfl
        · obtain ⟨t, ht, w⟩ := (blf b).mp e
          unfold lbF at w
          split at w
          · rw [b_0] at w; cases w
          · rename_i hne
            rw [b_and, Bool.and_eq_true] at w
            exact absurd w.1 (y t ht hne)
      · refine Or.inr ⟨?_, (dz b).2.mpr x⟩
        obtain ⟨t, ht, hne, w⟩ := x
        have h1 := (hall t ht).1
        obtain ⟨-, ⟨-, hS, hSk⟩, -, -⟩ := (hO.t h1).2.1 hne
        exact be_n hO hS hb ((en_legal hO hS hSk (tgF_good hO hR' h1 hne)).1 b hb w).1
  refine ⟨by rw [eA]; exact hsw.1, ?_, fun s hs => ?_⟩
  · rw [(etN_a (b := 0) (by omega) (by omega)).2.2, (dz 0).1.2.2]
    exact hR'
  · have hs32 : s < 32 := by omega
    have e1 : (etN C z.2 n z.1).2.1 s = (if s < n ∧ bt z.2 s = true then 0 else if s < n ∧ bt lf s = true then -1 else c.2.1 s) := by
      rw [(etN_a hs32 (by omega)).2.1, (dz s).1.2.1, (lvN_a hs32 (by omega)).2.1]
      rfl
    rw [ae s hs32, e1]
    by_cases p1 : s < n ∧ bt z.2 s = true
    · rw [if_pos p1, decide_eq_true p1.1, p1.2]
      refine ⟨fun _ => ⟨0, Nat.zero_le _, i0⟩, fun x => ?_⟩
      simp at x
    · have q1 : (decide (s < n) && bt z.2 s) = false := by
        cases e : (decide (s < n) && bt z.2 s)
        · rfl
        · rw [Bool.and_eq_true, decide_eq_true_eq] at e; exact absurd e p1
      rw [if_neg p1, q1, Bool.or_false]
      by_cases p2 : s < n ∧ bt lf s = true
      · rw [if_pos p2, decide_eq_true p2.1, p2.2]
        refine ⟨fun x => ?_, fun _ => rfl⟩
        simp at x
      · have q2 : (decide (s < n) && bt lf s) = false := by
          cases e : (decide (s < n) && bt lf s)
          · rfl
          · rw [Bool.and_eq_true, decide_eq_true_eq] at e; exact absurd e p2
        rw [if_neg p2, q2]
        simp only [Bool.not_false, Bool.and_true]
        exact hG s hs
theorem agO.mono {k l : Nat} {c : pC} (hkl : k ≤ l) (h : agO k c) : agO l c := fun s hs => ⟨fun x => by
  obtain ⟨g, hg, e⟩ := (h s hs).1 x
  exact ⟨g, by omega, e⟩, (h s hs).2⟩
theorem invC.mono {k l : Nat} {c : pC} (hkl : k ≤ l) (h : invC C n k c) : invC C n l c := ⟨h.1, h.2.1, h.2.2.mono hkl⟩
theorem prN_inv (hO : chO C n m) {l : Nat} : ∀ {k cs fs : Nat} {c : pC}, invC C n l c → invC C n l (prN C n m k cs fs c).1
  | 0, _, _, _, h => h
  | k + 1, cs, fs, c, h => by
    have hs := stC_inv (cs := cs) hO h
    rw [prN]
    generalize fs + (if 0 < (tkC C n m c cs).length then 1 else 0) = f1
    split
    · exact hs
    · split
      · exact hs
      · split
        · exact prN_inv hO hs
        · split
          · exact hs
          · exact prN_inv hO (c := (_, _, _, _, _)) hs
theorem glC_inv (hO : chO C n m) {k : Nat} {c : pC} (h : invC C n k c) : invC C n (k + 1) (glC n c) := by
  refine ⟨h.1, h.2.1, fun s hs => ?_⟩
  show (bt c.1 s = true → ∃ g, g ≤ k + 1 ∧ (if s < n ∧ bt c.1 s = true then c.2.1 s + 1 else c.2.1 s) = nI g) ∧ (bt c.1 s = false → (if s < n ∧ bt c.1 s = true then c.2.1 s + 1 else c.2.1 s) = -1)
  refine ⟨fun x => ?_, fun x => ?_⟩
  · obtain ⟨g, hg, e⟩ := (h.2.2 s hs).1 x
    rw [if_pos ⟨(h.1.2.1 s (by omega) x).1, x⟩, e, nI_1]
    exact ⟨g + 1, by omega, rfl⟩
  · rw [if_neg (fun z => by rw [x] at z; exact absurd z.2 (by decide))]
    exact (h.2.2 s hs).2 x
theorem pcF_inv (hO : chO C n m) {k cs : Nat} {c : pC} (h : invC C n k c) : invC C n (if ¬ ((C 5 5 &&& C 1 6) &&& c.1) ≠ 0 ∧ cs = 10 then k + 1 else k) (pcF C n m cs c).1 := by
  unfold pcF
  by_cases hE : ((C 5 5 &&& C 1 6) &&& c.1) ≠ 0
  · rw [if_pos hE, if_neg (fun z => z.1 hE)]
    exact h
  · rw [if_neg hE]
    by_cases h10 : cs = 10
    · rw [if_pos ⟨hE, h10⟩, if_pos h10]
      exact prN_inv hO (glC_inv hO h)
    · rw [if_neg (fun z => h10 z.2), if_neg h10]
      exact prN_inv hO h
end
