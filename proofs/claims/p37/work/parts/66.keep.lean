/-! ===== a STEP keeps what is ACTIVE legal ===== -/
section
variable {C : pt_M} {n m : Nat}
theorem acF_a {k : Nat} {c : pC} : (acF C k c).1 = c.1 ∧ (acF C k c).2.1 = c.2.1 ∧ (acF C k c).2.2.1 = c.2.2.1 := by
  refine ⟨?_, ?_, acF_r⟩
  all_goals
    unfold acF
    split
    · rfl
    · split
      · rfl
      · split
        · unfold raF; split <;> rfl
        · rfl
theorem lvN_a {lf : Int32} {b : Nat} (hb : b < 32) : ∀ {i : Nat} {c : pC}, i ≤ 32 → bt (lvN C lf i c).1 b = (bt c.1 b && !(decide (b < i) && bt lf b)) ∧ (lvN C lf i c).2.1 b = (if b < i ∧ bt lf b = true then -1 else c.2.1 b) ∧ (lvN C lf i c).2.2.1 = c.2.2.1
  | 0, c, _ => ⟨by rw [lvN, decide_eq_false (Nat.not_lt_zero _)]; simp, by rw [lvN, if_neg (fun z => absurd z.1 (Nat.not_lt_zero _))], rfl⟩
  | i + 1, c, hi => by
    rw [lvN]
    split
    · rename_i hl
      obtain ⟨h1, h2, h3⟩ := lvN_a (lf := lf) hb (i := i) (c := acF C (5 + 3 * i + 2) (lv1 i c)) (by omega)
      rw [h1, h2, h3, acF_a.1, acF_a.2.1, acF_a.2.2]
      refine ⟨?_, ?_, rfl⟩
      · show (bt (c.1 &&& (s1 i ^^^ (-1))) b && _) = _
        rw [b_and, b_not _ hb, b_s1 (by omega) hb]
        by_cases e : b = i
        · subst e
          rw [hl, decide_eq_true rfl, decide_eq_true (Nat.lt_succ_self _)]
          simp
        · rw [decide_eq_false e, show decide (b < i) = decide (b < i + 1) from by congr 1; exact propext ⟨fun _ => by omega, fun _ => by omega⟩]
          simp
      · show (if _ then _ else (if b = i then -1 else c.2.1 b)) = _
        by_cases e : b = i
        · subst e
          rw [if_neg (fun z => absurd z.1 (Nat.lt_irrefl _)), if_pos rfl, if_pos ⟨Nat.lt_succ_self _, hl⟩]
        · rw [if_neg e]
          exact ifc ⟨fun z => ⟨by omega, z.2⟩, fun z => ⟨by omega, z.2⟩⟩
    · rename_i hl
      obtain ⟨h1, h2, h3⟩ := lvN_a (lf := lf) hb (i := i) (c := c) (by omega)
      rw [h1, h2, h3]
      have hl' : bt lf i = false := by simpa using hl
      refine ⟨?_, ?_, rfl⟩
      · by_cases e : b = i
        · subst e; rw [hl']; simp
        · rw [show decide (b < i) = decide (b < i + 1) from by congr 1; exact propext ⟨fun _ => by omega, fun _ => by omega⟩]
      · by_cases e : b = i
        · subst e
          rw [if_neg (fun z => hl z.2), if_neg (fun z => hl z.2)]
        · exact ifc ⟨fun z => ⟨by omega, z.2⟩, fun z => ⟨by omega, z.2⟩⟩
theorem etN_a {en : Int32} {c : pC} {b : Nat} (hb : b < 32) : ∀ {i : Nat}, i ≤ 32 → bt (etN C en i c).1 b = (bt c.1 b || (decide (b < i) && bt en b)) ∧ (etN C en i c).2.1 b = (if b < i ∧ bt en b = true then 0 else c.2.1 b) ∧ (etN C en i c).2.2.1 = c.2.2.1
  | 0, _ => ⟨by rw [etN, decide_eq_false (Nat.not_lt_zero _)]; simp, by rw [etN, if_neg (fun z => absurd z.1 (Nat.not_lt_zero _))], rfl⟩
  | i + 1, hi => by
    obtain ⟨h1, h2, h3⟩ := etN_a (en := en) (c := c) hb (i := i) (by omega)
    rw [etN]
    split
    · rename_i hl
      rw [acF_a.1, acF_a.2.1, acF_a.2.2]
      refine ⟨?_, ?_, h3⟩
      · show bt ((etN C en i c).1 ||| s1 i) b = _
        rw [b_or, b_s1 (by omega) hb, h1]
        by_cases e : b = i
        · subst e
          rw [hl, decide_eq_true rfl, decide_eq_true (Nat.lt_succ_self _)]
          simp
        · rw [decide_eq_false e, show decide (b < i) = decide (b < i + 1) from by congr 1; exact propext ⟨fun _ => by omega, fun _ => by omega⟩]
          simp
      · show (if b = i then 0 else (etN C en i c).2.1 b) = _
        rw [h2]
        by_cases e : b = i
        · subst e
          rw [if_pos rfl, if_pos ⟨Nat.lt_succ_self _, hl⟩]
        · rw [if_neg e]
          exact ifc ⟨fun z => ⟨by omega, z.2⟩, fun z => ⟨by omega, z.2⟩⟩
    · rename_i hl
      have hl' : bt en i = false := by simpa using hl
      rw [h1, h2, h3]
      refine ⟨?_, ?_, rfl⟩
      · by_cases e : b = i
        · subst e; rw [hl']; simp
        · rw [show decide (b < i) = decide (b < i + 1) from by congr 1; exact propext ⟨fun _ => by omega, fun _ => by omega⟩]
      · by_cases e : b = i
        · subst e
          rw [if_neg (fun z => hl z.2), if_neg (fun z => hl z.2)]
        · exact ifc ⟨fun z => ⟨by omega, z.2⟩, fun z => ⟨by omega, z.2⟩⟩
theorem lfF_b {a : Int32} {b : Nat} : ∀ {L : List Nat} {x : Int32}, bt (lfF C a L x) b = true ↔ bt x b = true ∨ ∃ t, t ∈ L ∧ bt (lbF C a t) b = true
  | [], x => ⟨Or.inl, fun h => h.elim id (fun ⟨t, ht, _⟩ => absurd ht List.not_mem_nil)⟩
  | t :: L, x => by
    rw [lfF, lfF_b (L := L), b_or, Bool.or_eq_true]
    constructor
    · rintro ((h | h) | ⟨o, ho, h⟩)
      · exact Or.inl h
      · exact Or.inr ⟨t, List.mem_cons_self, h⟩
      · exact Or.inr ⟨o, List.mem_cons_of_mem _ ho, h⟩
    · rintro (h | ⟨o, ho, h⟩)
      · exact Or.inl (Or.inl h)
      · rcases List.mem_cons.mp ho with rfl | ho
        · exact Or.inl (Or.inr h)
        · exact Or.inr ⟨o, ho, h⟩
theorem doF_a {b : Nat} : ∀ {L : List Nat} {z : pC × Int32}, ((doF C n L z).1.1 = z.1.1 ∧ (doF C n L z).1.2.1 = z.1.2.1 ∧ (doF C n L z).1.2.2.1 = z.1.2.2.1) ∧ (bt (doF C n L z).2 b = true ↔ bt z.2 b = true ∨ ∃ t, t ∈ L ∧ C (65 + 2 * t) 4 ≠ -1 ∧ bt (enF C n (tS C t) (tgF C z.1.2.2.1 t)) b = true)
  | [], z => ⟨⟨rfl, rfl, rfl⟩, Or.inl, fun h => h.elim id (fun ⟨t, ht, _⟩ => absurd ht List.not_mem_nil)⟩
  | t :: L, z => by
    obtain ⟨⟨h1, h2, h3⟩, h4⟩ := doF_a (b := b) (L := L) (z := (acF C (65 + 2 * t + 1) z.1, if C (65 + 2 * t) 4 = -1 then z.2 else z.2 ||| enF C n (tS C t) (tgF C (acF C (65 + 2 * t + 1) z.1).2.2.1 t)))
    rw [doF, h1, h2, h3, h4]
    dsimp only
    rw [acF_a.1, acF_a.2.1, acF_a.2.2]
    refine ⟨⟨rfl, rfl, rfl⟩, ?_⟩
    split
    · rename_i hto
      constructor
      · rintro (h | ⟨o, ho, h⟩)
        · exact Or.inl h
        · exact Or.inr ⟨o, List.mem_cons_of_mem _ ho, h⟩
      · rintro (h | ⟨o, ho, h, h'⟩)
        · exact Or.inl h
        · rcases List.mem_cons.mp ho with rfl | ho
          · exact absurd hto h
          · exact Or.inr ⟨o, ho, h, h'⟩
    · rename_i hto
      rw [b_or, Bool.or_eq_true]
      constructor
      · rintro ((h | h) | ⟨o, ho, h⟩)
        · exact Or.inl h
        · exact Or.inr ⟨t, List.mem_cons_self, hto, h⟩
        · exact Or.inr ⟨o, List.mem_cons_of_mem _ ho, h⟩
      · rintro (h | ⟨o, ho, h, h'⟩)
        · exact Or.inl (Or.inl h)
        · rcases List.mem_cons.mp ho with rfl | ho
          · exact Or.inl (Or.inr h')
          · exact Or.inr ⟨o, ho, h, h'⟩
end
