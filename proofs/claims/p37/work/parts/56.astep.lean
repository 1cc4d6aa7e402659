/-! ===== CHOSEN ones, one by one; a STEP ===== -/
def chN (C : pt_M) (op a : Int32) : Nat → Int32 × List Nat
  | 0 => (0, [])
  | i + 1 => if bt (C 1 5 &&& a) i = true then (match nrN C op i (i + 1) with | none => chN C op a i | some t => if bt (chN C op a i).1 t = true then chN C op a i else ((chN C op a i).1 ||| s1 t, tkF C a (chN C op a i).2 t)) else chN C op a i
theorem tkF_mem {C : pt_M} {a : Int32} {L : List Nat} {t o : Nat} (h : o ∈ tkF C a L t) : o ∈ L ∨ o = t := by
  unfold tkF at h
  split at h
  · exact Or.inl h
  · rcases List.mem_append.mp h with z | z
    · exact Or.inl (List.mem_filter.mp z).1
    · exact Or.inr (List.mem_singleton.mp z)
theorem tkF_len {C : pt_M} {a : Int32} {L : List Nat} {t : Nat} : (tkF C a L t).length ≤ L.length + 1 := by
  unfold tkF
  split
  · omega
  · rw [List.length_append]
    have := List.length_filter_le (fun o => decide (lbF C a o &&& lbF C a t = 0)) L
    show _ + 1 ≤ _
    omega
theorem f_choose {C M : pt_M} {n m p : Nat} {op : Int32} {Q : pt_M → Prop} (hp : 125 ≤ p) (hC : chE C M) (hO : chO C n m) (hop : ∀ t, t < 32 → bt op t = true → t < m) (h : ∀ M', tkM p M M' → isL p M' (chN C op (M (p + 1) 3) n).2 → (∀ o ∈ (chN C op (M (p + 1) 3) n).2, o < m ∧ bt op o = true) → (chN C op (M (p + 1) 3) n).2.length ≤ n → Q M') : wpX3_choose p op M Q := by
  obtain ⟨hn, h1, h20⟩ := hO.n
  obtain ⟨hm, h30⟩ := hO.m
  unfold wpX3_choose
  refine eqv ?_
  rw [pt_st_o (show p + 1 ≠ p by omega), pt_st_o (show 1 ≠ p by omega), hC 1 (by omega)]
  obtain ⟨a, ha⟩ : ∃ a, a = M (p + 1) 3 := ⟨_, rfl⟩
  rw [← ha] at h ⊢
  refine eqv ?_
  refine lp_up (S := Int32 × Int32 × Int32 × pt_M) (lp := fun k z => lpX3_choose_26 p op Q k z.1 z.2.1 z.2.2.1 z.2.2.2) (lb := fun R z => lbX3_choose_26 p op Q (fun a b c d => R (a, b, c, d)) z.1 z.2.1 z.2.2.1 z.2.2.2) (fun _ _ => rfl) n (fun i z => z.1 = (chN C op a i).1 ∧ z.2.1 = C 1 5 &&& a ∧ z.2.2.1 = nI i ∧ tkM p M z.2.2.2 ∧ isL p z.2.2.2 (chN C op a i).2 ∧ (∀ o ∈ (chN C op a i).2, o < m ∧ bt op o = true) ∧ (chN C op a i).2.length ≤ i) ?_ (i := 0) (s := (0, C 1 5 &&& a, 0, pt_st M p 10 0)) (Nat.zero_le _) ⟨rfl, rfl, i0, tkM.st0, ⟨by show pt_st M p 10 0 p 10 = nI 0; rw [st_at]; exact i0, fun i t e => by simp [chN] at e⟩, fun o ho => by simp [chN] at ho, Nat.le_refl _⟩
  rintro i ⟨x, y, z, M1⟩ hi ⟨e1, e2, e3, hs, hL, hLm, hLl⟩ R hR
  dsimp only at e1 e2 e3 hs hL
  subst e1 e2 e3
  have hC1 := hs.chE hp hC
  show lbX3_choose_26 p op Q (fun a b c d => R (a, b, c, d)) _ _ (nI i) M1
  unfold lbX3_choose_26 wjX3_choose_58 wjX3_choose_89
  rw [hC1 1 (by omega), hn]
  refine ⟨fun q => ?_, fun q => ?_⟩
  · have := le_of_nI (by omega) (by omega) q
    have e : i = n := by omega
    subst e
    exact h M1 hs hL hLm hLl
  · have hl := lt_of_nI (by omega) (by omega) q
    have eA : M1 (p + 1) 3 = a := by rw [hs.2.2 (p + 1) (by omega) (by omega)]; exact ha.symm
    have same : chN C op a (i + 1) = chN C op a i → R ((chN C op a i).1, C 1 5 &&& a, nI (i + 1), M1) := fun e => hR _ hl ⟨by rw [e], rfl, rfl, hs, by rw [e]; exact hL, by rw [e]; exact hLm, by rw [e]; omega⟩
    refine f_has (by omega) (br0 (fun hb => ⟨fun _ => nx (same ?_), fun z => absurd rfl z⟩) (fun hb => f_nearestOpen hC1 hO hl (fun hnr => ?_)))
    · rw [chN, if_neg (by rw [hb]; decide)]
    · cases e : nrN C op i (i + 1) with
      | none =>
        refine ⟨fun _ => nx (same ?_), fun z => absurd rfl z⟩
        rw [chN, if_pos hb, e]
      | some t =>
        obtain ⟨ht, hbt⟩ := hnr t e
        have htm := hop t ht hbt
        show (nI t = -1 → _) ∧ (¬ nI t = -1 → _)
        refine ⟨fun z => absurd (z ▸ nI_pos (n := t) (by omega)) (by decide), fun _ => f_has (by omega) (br1 (fun hb2 => f_setOf (eqv (f_takeIfFree hp hC1 hO htm hL (fun o ho => (hLm o ho).1) (by omega) (fun M' hs' hL' => nx (hR _ hl ⟨?_, rfl, rfl, hs.tr hs', ?_, ?_, ?_⟩))))) (fun hb2 => nx (same ?_)))⟩
        · rw [chN, if_pos hb, e]
          dsimp only
          rw [if_neg (by rw [hb2]; decide)]
        · rw [eA] at hL'
          rw [chN, if_pos hb, e]
          dsimp only
          rw [if_neg (by rw [hb2]; decide)]
          exact hL'
        · rw [chN, if_pos hb, e]
          dsimp only
          rw [if_neg (by rw [hb2]; decide)]
          intro o ho
          rcases tkF_mem ho with z | z
          · exact hLm o z
          · rw [z]; exact ⟨htm, hbt⟩
        · rw [chN, if_pos hb, e]
          dsimp only
          rw [if_neg (by rw [hb2]; decide)]
          have := tkF_len (C := C) (a := a) (L := (chN C op a i).2) (t := t)
          show (tkF _ _ _ _).length ≤ _
          omega
        · rw [chN, if_pos hb, e]
          dsimp only
          rw [if_pos hb2]
/-- all that the taken ones leave; what they do; what they fire -/
def lfF (C : pt_M) (a : Int32) : List Nat → Int32 → Int32
  | [], x => x
  | t :: L, x => lfF C a L (x ||| lbF C a t)
def doF (C : pt_M) (n : Nat) : List Nat → pC × Int32 → pC × Int32
  | [], z => z
  | t :: L, z => doF C n L (acF C (65 + 2 * t + 1) z.1, if C (65 + 2 * t) 4 = -1 then z.2 else z.2 ||| enF C n (tS C t) (tgF C (acF C (65 + 2 * t + 1) z.1).2.2.1 t))
def fiF : List Nat → (Nat → Int32) → Nat → Int32
  | [], f => f
  | t :: L, f => fiF L (upI f t (f t + 1))
def opC (C : pt_M) (n m : Nat) (c : pC) (cs : Nat) : Int32 := opF C n m c.1 c.2.1 c.2.2.2.1 cs
def tkC (C : pt_M) (n m : Nat) (c : pC) (cs : Nat) : List Nat := if opC C n m c cs = 0 then [] else (chN C (opC C n m c cs) c.1 n).2
def stC (C : pt_M) (n m : Nat) (c : pC) (cs : Nat) : pC := if opC C n m c cs = 0 then c else
  let L := tkC C n m c cs
  let lf := lfF C c.1 L 0
  let z := doF C n L (lvN C lf n (mrN C lf n c), 0)
  etN C z.2 n z.1
