/-! ===== .. the whole STEP ===== -/
section
variable {C : pt_M} {n m : Nat}
theorem opF_b {a : Int32} {ag v : Nat → Int32} {cs t : Nat} (ht : t < 32) (h : bt (opF C n m a ag v cs) t = true) : bt a (tF C t) = true := by
  unfold opF at h
  rw [b_mk ht, Bool.and_eq_true, Bool.and_eq_true] at h
  have := h.2
  unfold opB at this
  rw [Bool.and_eq_true, Bool.and_eq_true] at this
  exact this.1.1
theorem nrN_b {op : Int32} {lf t : Nat} : ∀ {k}, nrN C op lf k = some t → t < 32 ∧ bt op t = true
  | 0, h => by cases h
  | k + 1, h => by
    rw [nrN] at h
    split at h
    · rename_i hh
      cases h
      obtain ⟨t, ht, h1, h2⟩ := b_least hh.2
      have el : lsB (C (5 + 3 * k) 8 &&& op) = t := by unfold lsB; rw [b_low ht h1 h2, bcF_low t ht, nI_clamp (by omega)]
      rw [el]
      rw [b_and, Bool.and_eq_true] at h1
      exact ⟨ht, h1.2⟩
    · exact nrN_b h
theorem tkF_pw {a : Int32} {L : List Nat} {t : Nat} (h : L.Pairwise (fun o p => lbF C a o &&& lbF C a p = 0)) : (tkF C a L t).Pairwise (fun o p => lbF C a o &&& lbF C a p = 0) := by
  unfold tkF
  split
  · exact h
  · rw [List.pairwise_append]
    refine ⟨h.filter _, List.pairwise_singleton _ _, fun o ho p hp => ?_⟩
    rw [List.mem_singleton.mp hp]
    exact of_decide_eq_true (List.mem_filter.mp ho).2
theorem chN_all {op a : Int32} : ∀ {i : Nat}, (∀ o ∈ (chN C op a i).2, o < 32 ∧ bt op o = true) ∧ (chN C op a i).2.Pairwise (fun o p => lbF C a o &&& lbF C a p = 0)
  | 0 => ⟨fun o ho => by simp [chN] at ho, List.Pairwise.nil⟩
  | i + 1 => by
    have ih := chN_all (op := op) (a := a) (i := i)
    rw [chN]
    split
    · split
      · exact ih
      · rename_i t e
        split
        · exact ih
        · refine ⟨fun o ho => ?_, tkF_pw ih.2⟩
          rcases tkF_mem ho with z | z
          · exact ih.1 o z
          · rw [z]; exact nrN_b e
    · exact ih
theorem tkC_all (hO : chO C n m) {cs : Nat} {c : pC} : (∀ o ∈ tkC C n m c cs, o < m ∧ bt c.1 (tF C o) = true) ∧ (tkC C n m c cs).Pairwise (fun o p => lbF C c.1 o &&& lbF C c.1 p = 0) := by
  have hm := (tkC_m (cs := cs) (c := c) hO).1
  unfold tkC at hm ⊢
  split
  · exact ⟨fun o ho => by simp at ho, List.Pairwise.nil⟩
  · rename_i hz
    rw [if_neg hz] at hm
    exact ⟨fun o ho => ⟨hm o ho, opF_b (chN_all.1 o ho).1 (chN_all.1 o ho).2⟩, chN_all.2⟩
/-- one SCOPE's content after the other -/
def swF (C : pt_M) (n : Nat) (rs : Nat → Int32) : List Nat → Int32 → Int32
  | [], a => a
  | t :: L, a => swF C n rs L (if C (65 + 2 * t) 4 = -1 then a else (a &&& (C (5 + 3 * tS C t) 7 ^^^ (-1))) ||| enF C n (tS C t) (tgF C rs t))
def apt (C : pt_M) (o p : Nat) : Prop := C (65 + 2 * o) 4 ≠ -1 → C (65 + 2 * p) 4 ≠ -1 → tS C o ≠ tS C p ∧ ¬ be C (tS C o) (tS C p) ∧ ¬ be C (tS C p) (tS C o)
theorem swF_ok (hO : chO C n m) {rs : Nat → Int32} (hrs : rcO C n rs) : ∀ {L : List Nat} {a : Int32}, lgA C n a → (∀ t ∈ L, t < m ∧ (C (65 + 2 * t) 4 ≠ -1 → bt a (tS C t) = true)) → L.Pairwise (apt C) → lgA C n (swF C n rs L a) ∧ ∀ b, b < 32 → (bt (swF C n rs L a) b = true ↔ (bt a b = true ∧ ∀ t ∈ L, C (65 + 2 * t) 4 ≠ -1 → ¬ be C (tS C t) b) ∨ ∃ t, t ∈ L ∧ C (65 + 2 * t) 4 ≠ -1 ∧ bt (enF C n (tS C t) (tgF C rs t)) b = true)
  | [], a, ha, _, _ => ⟨ha, fun b _ => ⟨fun h => Or.inl ⟨h, fun t ht => absurd ht List.not_mem_nil⟩, fun h => h.elim And.left (fun ⟨t, ht, _⟩ => absurd ht List.not_mem_nil)⟩⟩
  | t :: L, a, ha, hL, hp => by
    have h20 := hO.n.2.2
    obtain ⟨ht, hta⟩ := hL t List.mem_cons_self
    obtain ⟨hp1, hp2⟩ := List.pairwise_cons.mp hp
    rw [swF]
    split
    · rename_i hto
      obtain ⟨r1, r2⟩ := swF_ok hO hrs (L := L) ha (fun o ho => hL o (List.mem_cons_of_mem _ ho)) hp2
      refine ⟨r1, fun b hb => (r2 b hb).trans ?_⟩
      constructor
      · rintro (⟨x, y⟩ | ⟨o, ho, y⟩)
        · refine Or.inl ⟨x, fun o ho hne => ?_⟩
          rcases List.mem_cons.mp ho with rfl | ho
          · exact absurd hto hne
          · exact y o ho hne
        · exact Or.inr ⟨o, List.mem_cons_of_mem _ ho, y⟩
      · rintro (⟨x, y⟩ | ⟨o, ho, y, w⟩)
        · exact Or.inl ⟨x, fun o ho => y o (List.mem_cons_of_mem _ ho)⟩
        · rcases List.mem_cons.mp ho with rfl | ho
          · exact absurd hto y
          · exact Or.inr ⟨o, ho, y, w⟩
    · rename_i hto
      obtain ⟨⟨-, hF, -⟩, h2, -⟩ := hO.t ht
      obtain ⟨-, ⟨-, hS, hSk⟩, hSF, hST⟩ := h2 hto
      have hsb := en_legal hO hS hSk (tgF_good hO hrs ht hto)
      have hsw := ha.swap hO hS (hta hto) hsb
      have bits : ∀ b, b < 32 → (bt ((a &&& (C (5 + 3 * tS C t) 7 ^^^ (-1))) ||| enF C n (tS C t) (tgF C rs t)) b = true ↔ (bt a b = true ∧ ¬ be C (tS C t) b) ∨ bt (enF C n (tS C t) (tgF C rs t)) b = true) := fun i hi => by
        rw [b_or, b_and, b_not _ hi]
        unfold be
        cases bt a i <;> cases bt (C (5 + 3 * tS C t) 7) i <;> cases bt (enF C n (tS C t) (tgF C rs t)) i <;> simp
      have scn : ∀ o, o ∈ L → C (65 + 2 * o) 4 ≠ -1 → tS C o < n := fun o ho hne => ((hO.t (hL o (List.mem_cons_of_mem _ ho)).1).2.1 hne).2.1.2.1
      obtain ⟨r1, r2⟩ := swF_ok hO hrs (L := L) hsw (fun o ho => ⟨(hL o (List.mem_cons_of_mem _ ho)).1, fun hne => (bits _ (by have := scn o ho hne; omega)).mpr (Or.inl ⟨(hL o (List.mem_cons_of_mem _ ho)).2 hne, (hp1 o ho hto hne).2.1⟩)⟩) hp2
      refine ⟨r1, fun b hb => (r2 b hb).trans ?_⟩
      rw [bits b hb]
      constructor
      · rintro (⟨⟨x, x2⟩ | x, y⟩ | ⟨o, ho, y⟩)
        · refine Or.inl ⟨x, fun o ho hne => ?_⟩
          rcases List.mem_cons.mp ho with rfl | ho
          · exact x2
          · exact y o ho hne
        · exact Or.inr ⟨t, List.mem_cons_self, hto, x⟩
        · exact Or.inr ⟨o, List.mem_cons_of_mem _ ho, y⟩
      · rintro (⟨x, y⟩ | ⟨o, ho, y, w⟩)
        · exact Or.inl ⟨Or.inl ⟨x, y t List.mem_cons_self hto⟩, fun o ho => y o (List.mem_cons_of_mem _ ho)⟩
        · rcases List.mem_cons.mp ho with rfl | ho
          · refine Or.inl ⟨Or.inr w, fun p hp hne hbe => ?_⟩
            have hap := hp1 p hp hto hne
            rcases be_cmp hO hS (scn p hp hne) hb (hsb.1 b hb w).1 hbe with z | z | z
            · exact hap.1 z
            · exact hap.2.1 z
            · exact hap.2.2 z
          · exact Or.inr ⟨o, ho, y, w⟩
theorem apt_of (hO : chO C n m) {a : Int32} {o p : Nat} (ho : o < m) (hp : p < m) (ao : bt a (tF C o) = true) (ap : bt a (tF C p) = true) (h : lbF C a o &&& lbF C a p = 0) : apt C o p := by
  have h20 := hO.n.2.2
  intro n1 n2
  obtain ⟨⟨-, hF, -⟩, h2, -⟩ := hO.t ho
  obtain ⟨-, ⟨-, hS, hSk⟩, hSF, -⟩ := h2 n1
  obtain ⟨⟨-, hF', -⟩, h2', -⟩ := hO.t hp
  obtain ⟨-, ⟨-, hS', hSk'⟩, hSF', -⟩ := h2' n2
  have no : ∀ b, b < 32 → bt a b = true → be C (tS C o) b → ¬ be C (tS C p) b := fun b hb hab x y => by
    have := b_eq0.mp h b hb
    unfold lbF at this
    rw [if_neg n1, if_neg n2, b_and, b_and, b_and, hab, show bt (C (5 + 3 * tS C o) 7) b = true from x, show bt (C (5 + 3 * tS C p) 7) b = true from y] at this
    cases this
  refine ⟨fun e => no (tF C o) (by omega) ao hSF (by rw [← e]; exact hSF), fun z => no (tF C p) (by omega) ap (be_tr hO hS hS' z (by omega) hSF') hSF', fun z => no (tF C o) (by omega) ao hSF (be_tr hO hS' hS z (by omega) hSF)⟩
end
