/-! ===== how a call ends: over, RESTLESS or settled; what FIRED adds up ===== -/
def seC (C : pt_M) (n m : Nat) (c : pC) : Prop := tkC C n m c 11 = [] ∧ c.2.2.2.2 = [] ∧ ¬ ((C 5 5 &&& C 1 6) &&& c.1) ≠ 0
theorem prN_end {C : pt_M} {n m : Nat} (hn : n ≤ 32) : ∀ {k cs fs : Nat} {c : pC}, ((prN C n m k cs fs c).2.2 = 0 → ((C 5 5 &&& C 1 6) &&& (prN C n m k cs fs c).1.1) ≠ 0) ∧ ((prN C n m k cs fs c).2.2 = 2 → seC C n m (prN C n m k cs fs c).1)
  | 0, _, _, _ => ⟨fun h => absurd (show 3 = 0 from h) (by decide), fun h => absurd (show 3 = 2 from h) (by decide)⟩
  | k + 1, cs, fs, c => by
    rw [prN]
    generalize hf1 : fs + (if 0 < (tkC C n m c cs).length then 1 else 0) = f1
    split
    · rename_i h1
      exact ⟨fun _ => h1, fun h => absurd (show 0 = 2 from h) (by decide)⟩
    · rename_i h1
      split
      · exact ⟨fun h => absurd (show 1 = 0 from h) (by decide), fun h => absurd (show 1 = 2 from h) (by decide)⟩
      · split
        · exact prN_end hn
        · rename_i h3
          have h11 : cs = 11 := Classical.byContradiction fun z => h3 (Or.inr z)
          have hT : tkC C n m c cs = [] := List.length_eq_zero_iff.mp (Nat.eq_zero_of_not_pos fun z => h3 (Or.inl z))
          have hs : stC C n m c cs = c := stC_0 hn hT
          split
          · rename_i h4
            refine ⟨fun h => absurd (show 2 = 0 from h) (by decide), fun _ => ?_⟩
            dsimp only
            rw [hs] at h1 h4 ⊢
            rw [h11] at hT
            exact ⟨hT, h4, h1⟩
          · exact prN_end hn
theorem pcF_end {C : pt_M} {n m cs : Nat} {c : pC} (hn : n ≤ 32) : ((pcF C n m cs c).2.2 = 0 → ((C 5 5 &&& C 1 6) &&& (pcF C n m cs c).1.1) ≠ 0) ∧ ((pcF C n m cs c).2.2 = 2 → seC C n m (pcF C n m cs c).1) := by
  unfold pcF
  split
  · rename_i h1
    exact ⟨fun _ => h1, fun h => absurd (show 0 = 2 from h) (by decide)⟩
  · exact prN_end hn
/-- over: a call does nothing -/
theorem pcF_over {C : pt_M} {n m cs : Nat} {c : pC} (h : ((C 5 5 &&& C 1 6) &&& c.1) ≠ 0) (hq : c.2.2.2.2 = []) : pcF C n m cs c = (c, [], 0) := by
  unfold pcF
  rw [if_pos h, lqC_id hq]
theorem tkC_0 {C : pt_M} {n m cs : Nat} {c : pC} (h : opC C n m c cs = 0) : tkC C n m c cs = [] := by
  unfold tkC
  rw [if_pos h]
theorem prN_n1 {C : pt_M} {n m k cs fs : Nat} {c : pC} (hn : n ≤ 32) (hT : tkC C n m c cs = []) (hE : ¬ ((C 5 5 &&& C 1 6) &&& c.1) ≠ 0) (hf : fs ≠ 12) (hc : cs ≠ 11) : prN C n m (k + 1) cs fs c = prN C n m k 11 fs c := by
  rw [prN, stC_0 hn hT, hT, if_neg hE]
  generalize hz : fs + (if 0 < ([] : List Nat).length then 1 else 0) = f1
  have e : f1 = fs := hz.symm
  rw [e, if_neg hf, if_pos (Or.inr hc)]
  rfl
theorem prN_n2 {C : pt_M} {n m k fs : Nat} {c : pC} (hn : n ≤ 32) (hT : tkC C n m c 11 = []) (hE : ¬ ((C 5 5 &&& C 1 6) &&& c.1) ≠ 0) (hf : fs ≠ 12) (hq : c.2.2.2.2 = []) : prN C n m (k + 1) 11 fs c = (c, [], 2) := by
  rw [prN, stC_0 hn hT, hT, if_neg hE]
  generalize hz : fs + (if 0 < ([] : List Nat).length then 1 else 0) = f1
  have e : f1 = fs := hz.symm
  rw [e, if_neg hf, if_neg (fun z => z.elim (fun z => absurd z (Nat.lt_irrefl _)) (fun z => z rfl)), hq]
/-- settled, and nothing OPEN by an event: the event does nothing -/
theorem pcF_calm {C : pt_M} {n m e : Nat} {c : pC} (hn : n ≤ 32) (he : e < 10) (hs : seC C n m c) (ho : opC C n m c e = 0) : pcF C n m e c = (c, [], 2) := by
  obtain ⟨h11, hq, hE⟩ := hs
  unfold pcF
  rw [if_neg hE, if_neg (show e ≠ 10 by omega), prN_n1 hn (tkC_0 ho) hE (by decide) (by omega), prN_n2 hn h11 hE (by decide) hq]
theorem prN_m {C : pt_M} {n m : Nat} (hO : chO C n m) : ∀ {k cs fs : Nat} {c : pC}, ∀ o ∈ (prN C n m k cs fs c).2.1, o < m
  | 0, _, _, _, o, h => absurd (show o ∈ ([] : List Nat) from h) List.not_mem_nil
  | k + 1, cs, fs, c, o, h => by
    rw [prN] at h
    generalize fs + (if 0 < (tkC C n m c cs).length then 1 else 0) = f1 at h
    split at h
    · exact (tkC_m hO).1 o h
    · split at h
      · exact (tkC_m hO).1 o h
      · split at h
        · rcases List.mem_append.mp h with z | z
          · exact (tkC_m hO).1 o z
          · exact prN_m hO o z
        · split at h
          · exact (tkC_m hO).1 o h
          · rcases List.mem_append.mp h with z | z
            · exact (tkC_m hO).1 o z
            · exact prN_m hO o z
theorem pcF_m {C : pt_M} {n m cs : Nat} {c : pC} (hO : chO C n m) : ∀ o ∈ (pcF C n m cs c).2.1, o < m := by
  intro o h
  unfold pcF at h
  split at h
  · exact absurd (show o ∈ ([] : List Nat) from h) List.not_mem_nil
  · exact prN_m hO o h
/-- the sum over all -/
def smF (f : Nat → Int32) : Nat → Int32
  | 0 => 0
  | k + 1 => smF f k + f k
theorem smF_hi {f : Nat → Int32} {t : Nat} {x : Int32} : ∀ {k}, k ≤ t → smF (upI f t x) k = smF f k
  | 0, _ => rfl
  | k + 1, h => by
    rw [smF, smF, smF_hi (by omega)]
    show _ + (if k = t then x else f k) = _
    rw [if_neg (by omega)]
theorem smF_up {f : Nat → Int32} {t : Nat} : ∀ {k}, t < k → smF (upI f t (f t + 1)) k = smF f k + 1
  | 0, h => absurd h (Nat.not_lt_zero _)
  | k + 1, h => by
    rw [smF, smF]
    show _ + (if k = t then f t + 1 else f k) = _
    by_cases e : k = t
    · subst e
      rw [if_pos rfl, smF_hi (Nat.le_refl _), Int32.add_assoc]
    · rw [if_neg e, smF_up (by omega), Int32.add_assoc, Int32.add_comm 1, Int32.add_assoc]
theorem smF_fi {m : Nat} : ∀ {T : List Nat} {f : Nat → Int32}, (∀ o ∈ T, o < m) → smF (fiF T f) m = smF f m + nI T.length
  | [], f, _ => by
    show _ = _ + nI 0
    rw [nI_0, Int32.add_zero]
    rfl
  | t :: T, f, h => by
    show smF (fiF T _) m = _
    rw [smF_fi (fun o ho => h o (List.mem_cons_of_mem _ ho)), smF_up (h t List.mem_cons_self), Int32.add_assoc, Int32.add_comm 1, nI_1]
    rfl
