/-! ===== the checksum ===== -/
section
variable {C : pt_M} {n m : Nat}
def raV (M : pt_M) (i : Nat) : Int32 := if 0 ≤ nI i ∧ nI i ≤ M 141 1 - 1 then M 142 i else -1
theorem f_rowAt {M : pt_M} {i : Nat} {Q : Int32 → pt_M → Prop} (hi : i < 8) (h : Q (raV M i) M) : wpX7_rowAt (nI i) M Q := by
  unfold wpX7_rowAt wjX7_rowAt_30
  refine f_isWithin ?_
  unfold raV at h
  by_cases q : 0 ≤ nI i ∧ nI i ≤ M 141 1 - 1
  · rw [if_pos q] at h ⊢
    refine ⟨fun z => absurd z (by decide), fun _ => ⟨nI_in' (by omega) (by omega), ?_⟩⟩
    rw [nI_clamp (by omega)]; exact h
  · rw [if_neg q] at h ⊢
    exact ⟨fun _ => h, fun z => absurd rfl z⟩
theorem f_variable {M : pt_M} {c : pC} {v : Nat} {Q : Int32 → pt_M → Prop} (hE : enO C n m c M) (hv : v < 4) (h : Q (c.2.2.2.1 v) M) : wpX7_variable (nI v) M Q := by
  unfold wpX7_variable
  refine f_within (nI_le (a := 0) (Nat.zero_le _) (by omega)) (nI_le (b := 3) (by omega) (by omega)) ⟨fun _ => ⟨nI_in' (by omega) (by omega), ?_⟩, fun q => absurd q (by decide)⟩
  rw [nI_clamp (by omega), show 125 + 1 + 3 = 125 + 4 from rfl, hE.2.2.2.1.2.2.2.1 v hv]
  exact h
theorem f_ofState0 {M : pt_M} {s : Nat} {Q : Int32 → pt_M → Prop} (hC : chE C M) (hO : chO C n m) (hs : s < n) (h : Q (C (5 + 3 * s) 2) M) : wpX7_ofState (nI s) 0 M Q := by
  obtain ⟨hn, h1, h20⟩ := hO.n
  unfold wpX7_ofState
  refine f_checkState hC hn h20 hs ⟨nI_in' (by omega) (by omega), fun _ => ?_, fun q => absurd rfl q⟩
  rw [pt_s_n (by omega), hC (5 + 3 * s) (by omega)]
  exact h
theorem f_ofState2 {M : pt_M} {s : Nat} {Q : Int32 → pt_M → Prop} (hC : chE C M) (hO : chO C n m) (hs : s < n) (h : Q (C (5 + 3 * s) 4) M) : wpX7_ofState (nI s) 2 M Q := by
  obtain ⟨hn, h1, h20⟩ := hO.n
  unfold wpX7_ofState
  refine f_checkState hC hn h20 hs ⟨nI_in' (by omega) (by omega), fun q => absurd q (by decide), fun _ => ⟨fun q => absurd q (by decide), fun _ => ⟨fun _ => ?_, fun q => absurd rfl q⟩⟩⟩
  rw [pt_s_n (by omega), hC (5 + 3 * s) (by omega)]
  exact h
theorem f_record {M : pt_M} {c : pC} {s : Nat} {Q : Int32 → pt_M → Prop} (hE : enO C n m c M) (hs : s < n) (hk : C (5 + 3 * s) 2 = 3 ∨ C (5 + 3 * s) 2 = 4) (h : Q (c.2.2.1 s) M) : wpX7_record (nI s) M Q := by
  obtain ⟨hC, hO, hr, hc, hq, hq3⟩ := hE
  obtain ⟨hn, h1, h20⟩ := hO.n
  unfold wpX7_record
  refine f_checkState hC hn h20 hs ⟨nI_in' (by omega) (by omega), f_isMark ?_⟩
  rw [pt_s_n (by omega), hC (5 + 3 * s) (by omega), if_pos hk]
  refine ⟨fun _ => ⟨nI_in' (by omega) (by omega), ?_⟩, fun q => absurd q (by decide)⟩
  rw [nI_clamp (by omega), show 125 + 1 + 2 = 125 + 3 from rfl, hc.2.2.1 s (by omega)]
  exact h
/-- one state's share -/
def dsF (C : pt_M) (n : Nat) (c : pC) (s : Nat) (x : Int64) : Int64 :=
  let y := ((((x * 31 + (C (5 + 3 * s) 2).toInt64) * 31 + (C (5 + 3 * s) 3).toInt64) * 31 + (C (5 + 3 * s) 4).toInt64) * 31 + (bcF (C (5 + 3 * s) 5)).toInt64)
  let z := ((y * 31 + (Int32.toInt64 (if bt (edN C c.1 n 0) s = true then 1 else 0))) * 31 + (c.2.1 s).toInt64)
  if C (5 + 3 * s) 2 = 3 ∨ C (5 + 3 * s) 2 = 4 then z * 31 + (c.2.2.1 s).toInt64 else z
theorem f_ds1 {M : pt_M} {c : pC} {s : Nat} {x p1 : Int64} {Q : Int64 → pt_M → Prop} {R : Int64 → Int32 → Int32 → pt_M → Prop} (hE : enO C n m c M) (hs : s < n) (h : R (dsF C n c s x) (edN C c.1 n 0) (nI (s + 1)) M) : ∃ k, lpX7_digestOfStates_39 p1 Q R k x (edN C c.1 n 0) (nI s) 0 M := by
  obtain ⟨hn, h1, h20⟩ := hE.2.1.n
  refine ⟨5, ?_⟩
  show lbX7_digestOfStates_39 p1 Q R (lpX7_digestOfStates_39 p1 Q R 4) x (edN C c.1 n 0) (nI s) 0 M
  unfold lbX7_digestOfStates_39
  refine ⟨fun q => absurd q (by decide), fun _ => f_ofState0 hE.1 hE.2.1 hs (eqv (eqv ?_))⟩
  show lbX7_digestOfStates_39 p1 Q R (lpX7_digestOfStates_39 p1 Q R 3) _ (edN C c.1 n 0) (nI s) 1 M
  unfold lbX7_digestOfStates_39
  refine ⟨fun q => absurd q (by decide), fun _ => f_ofState1 hE.1 hE.2.1 hs (eqv (eqv ?_))⟩
  show lbX7_digestOfStates_39 p1 Q R (lpX7_digestOfStates_39 p1 Q R 2) _ (edN C c.1 n 0) (nI s) 2 M
  unfold lbX7_digestOfStates_39
  refine ⟨fun q => absurd q (by decide), fun _ => f_ofState2 hE.1 hE.2.1 hs (eqv (eqv ?_))⟩
  show lbX7_digestOfStates_39 p1 Q R (lpX7_digestOfStates_39 p1 Q R 1) _ (edN C c.1 n 0) (nI s) 3 M
  unfold lbX7_digestOfStates_39
  refine ⟨fun q => absurd q (by decide), fun _ => f_ofState3 hE.1 hE.2.1 hs (eqv (eqv ?_))⟩
  show lbX7_digestOfStates_39 p1 Q R (lpX7_digestOfStates_39 p1 Q R 0) _ (edN C c.1 n 0) (nI s) 4 M
  unfold lbX7_digestOfStates_39
  refine ⟨fun _ => ?_, fun q => absurd (show (4 : Int32) ≤ 4 from by decide) q⟩
  have key : ∀ b : Int32, b = (if bt (edN C c.1 n 0) s = true then 1 else 0) → wjX7_digestOfStates_87 p1 Q R (edN C c.1 n 0) (nI s) (((((x * 31 + (C (5 + 3 * s) 2).toInt64) * 31 + (C (5 + 3 * s) 3).toInt64) * 31 + (C (5 + 3 * s) 4).toInt64) * 31 + (bcF (C (5 + 3 * s) 5)).toInt64) * 31) b M := by
    intro b hb
    unfold wjX7_digestOfStates_87
    refine eqv (f_ageOf hE hs (eqv ⟨nI_in' (by omega) (by omega), f_isMark ?_⟩))
    rw [pt_s_n (by omega), hE.1 (5 + 3 * s) (by omega)]
    unfold dsF at h
    unfold wjX7_digestOfStates_134
    by_cases hk : C (5 + 3 * s) 2 = 3 ∨ C (5 + 3 * s) 2 = 4
    · rw [if_pos hk] at h ⊢
      refine ⟨fun q => absurd q (by decide), fun _ => f_record hE hs hk (eqv (nx ?_))⟩
      rw [hb]; exact h
    · rw [if_neg hk] at h ⊢
      refine ⟨fun _ => nx ?_, fun q => absurd rfl q⟩
      rw [hb]; exact h
  refine f_has (by omega) (br0 (fun q => key 0 ?_) (fun q => key 1 ?_))
  · rw [q]; rfl
  · rw [q]; rfl
def dsN (C : pt_M) (n : Nat) (c : pC) : Nat → Int64 → Int64
  | 0, x => x
  | i + 1, x => dsF C n c i (dsN C n c i x)
theorem f_ds {M : pt_M} {c : pC} {x : Int64} {Q : Int64 → pt_M → Prop} (hE : enO C n m c M) (h : Q (dsN C n c n x) M) : wpX7_digestOfStates x M Q := by
  obtain ⟨hn, h1, h20⟩ := hE.2.1.n
  unfold wpX7_digestOfStates
  refine f_endedAmong hE.1 hn h1 h20 ?_
  rw [hE.2.2.2.1.1]
  refine lp_up (S := Int64 × Int32 × Int32 × pt_M) (lp := fun k z => lpX7_digestOfStates_24 x Q k z.1 z.2.1 z.2.2.1 z.2.2.2) (lb := fun R z => lbX7_digestOfStates_24 x Q (fun a b c d => R (a, b, c, d)) z.1 z.2.1 z.2.2.1 z.2.2.2) (fun _ _ => rfl) n (fun i z => z = (dsN C n c i x, edN C c.1 n 0, nI i, M)) ?_ (i := 0) (s := (x, edN C c.1 n 0, 0, M)) (Nat.zero_le _) (by rw [i0]; rfl)
  rintro i z hi rfl R hR
  show lbX7_digestOfStates_24 x Q (fun a b c d => R (a, b, c, d)) _ _ (nI i) M
  unfold lbX7_digestOfStates_24
  rw [hE.1 1 (by omega), hn]
  refine ⟨fun q => ?_, fun q => ?_⟩
  · have := le_of_nI (by omega) (by omega) q
    have e : i = n := by omega
    subst e; exact h
  · have hl := lt_of_nI (by omega) (by omega) q
    exact f_ds1 hE hl (hR _ hl rfl)
/-- a run of shares -/
def dgN (f : Nat → Int32) : Nat → Int64 → Int64
  | 0, x => x
  | i + 1, x => dgN f i x * 31 + (f i).toInt64
def dgF (C : pt_M) (n m : Nat) (c : pC) (M : pt_M) : Int64 :=
  let a := (((58059 * 31 + (nI n).toInt64) * 31 + (nI m).toInt64) * 31 + Int32.toInt64 1) * 31 + c.1.toInt64
  let b := ((a * 31 + Int32.toInt64 (if ((C 5 5 &&& C 1 6) &&& c.1) ≠ 0 then 1 else 0)) * 31 + (M 125 4).toInt64) * 31 + (cvF (M 130) m).toInt64
  let d := ((b * 31 + (M 125 5).toInt64) * 31 + (M 125 6).toInt64) * 31 + (M 141 2).toInt64
  dgN (raV M) 8 (dgN (M 130) m (dgN c.2.2.2.1 4 (dsN C n c n d)))
theorem f_dgR {M : pt_M} {x : Int64} {Q : Int64 → pt_M → Prop} (h : Q (dgN (raV M) 8 x) M) : ∃ k, lpX7_digest_206 Q k x 0 M := by
  refine lp_up (S := Int64 × Int32 × pt_M) (lp := fun k z => lpX7_digest_206 Q k z.1 z.2.1 z.2.2) (lb := fun R z => lbX7_digest_206 Q (fun a b c => R (a, b, c)) z.1 z.2.1 z.2.2) (fun _ _ => rfl) 8 (fun i z => z = (dgN (raV M) i x, nI i, M)) ?_ (i := 0) (s := (x, 0, M)) (Nat.zero_le _) (by rw [i0]; rfl)
  rintro i z hi rfl R hR
  show lbX7_digest_206 Q (fun a b c => R (a, b, c)) _ (nI i) M
  unfold lbX7_digest_206
  refine ⟨fun q => ?_, fun q => ?_⟩
  · have := le_of_nI (a := 8) (by omega) (by omega) q
    have e : i = 8 := by omega
    subst e; exact h
  · have hl := lt_of_nI (a := 8) (by omega) (by omega) q
    exact f_rowAt hl (eqv (nx (hR _ hl rfl)))
theorem f_dgT {M : pt_M} {c : pC} {x : Int64} {Q : Int64 → pt_M → Prop} (hE : enO C n m c M) (h : Q (dgN (raV M) 8 (dgN (M 130) m x)) M) : ∃ k, lpX7_digest_174 Q k x 0 M := by
  obtain ⟨hm, h30⟩ := hE.2.1.m
  refine lp_up (S := Int64 × Int32 × pt_M) (lp := fun k z => lpX7_digest_174 Q k z.1 z.2.1 z.2.2) (lb := fun R z => lbX7_digest_174 Q (fun a b c => R (a, b, c)) z.1 z.2.1 z.2.2) (fun _ _ => rfl) m (fun i z => z = (dgN (M 130) i x, nI i, M)) ?_ (i := 0) (s := (x, 0, M)) (Nat.zero_le _) (by rw [i0]; rfl)
  rintro i z hi rfl R hR
  show lbX7_digest_174 Q (fun a b c => R (a, b, c)) _ (nI i) M
  unfold lbX7_digest_174
  rw [hE.1 1 (by omega), hm]
  refine ⟨fun q => ?_, fun q => ?_⟩
  · have := le_of_nI (by omega) (by omega) q
    have e : i = m := by omega
    subst e; exact f_dgR h
  · have hl := lt_of_nI (by omega) (by omega) q
    exact f_fired hE.1 hE.2.1 hl (eqv (nx (hR _ hl rfl)))
theorem f_dgV {M : pt_M} {c : pC} {x : Int64} {Q : Int64 → pt_M → Prop} (hE : enO C n m c M) (h : Q (dgN (raV M) 8 (dgN (M 130) m (dgN c.2.2.2.1 4 x))) M) : ∃ k, lpX7_digest_148 Q k x 0 M := by
  refine lp_up (S := Int64 × Int32 × pt_M) (lp := fun k z => lpX7_digest_148 Q k z.1 z.2.1 z.2.2) (lb := fun R z => lbX7_digest_148 Q (fun a b c => R (a, b, c)) z.1 z.2.1 z.2.2) (fun _ _ => rfl) 4 (fun i z => z = (dgN c.2.2.2.1 i x, nI i, M)) ?_ (i := 0) (s := (x, 0, M)) (Nat.zero_le _) (by rw [i0]; rfl)
  rintro i z hi rfl R hR
  show lbX7_digest_148 Q (fun a b c => R (a, b, c)) _ (nI i) M
  unfold lbX7_digest_148
  refine ⟨fun q => ?_, fun q => ?_⟩
  · have := le_of_nI (a := 4) (by omega) (by omega) q
    have e : i = 4 := by omega
    subst e; exact f_dgT hE h
  · have hl := lt_of_nI (a := 4) (by omega) (by omega) q
    exact f_variable hE hl (eqv (nx (hR _ hl rfl)))
theorem f_digest {M : pt_M} {c : pC} {Q : Int64 → pt_M → Prop} (hE : enO C n m c M) (h : Q (dgF C n m c M) M) : wpX7_digest M Q := by
  obtain ⟨hn, h1, h20⟩ := hE.2.1.n
  obtain ⟨hm, h30⟩ := hE.2.1.m
  unfold wpX7_digest wpX7_states
  refine eqv ?_
  unfold wpX7_transitions
  refine eqv ?_
  unfold wpX7_isRunning
  rw [hE.2.2.1]
  refine ⟨Or.inr rfl, fun q => absurd q (by decide), fun _ => ?_⟩
  unfold wjX7_digest_45
  refine eqv ?_
  unfold wpX7_active
  refine eqv ?_
  refine f_isOver hE ?_
  rw [hE.1 1 (by omega), hn, hm, show M (125 + 1) 3 = c.1 from hE.2.2.2.1.1]
  have key : ∀ b : Int32, b = (if ((C 5 5 &&& C 1 6) &&& c.1) ≠ 0 then 1 else 0) → wjX7_digest_77 Q (((((58059 * 31 + (nI n).toInt64) * 31 + (nI m).toInt64) * 31 + Int32.toInt64 1) * 31 + c.1.toInt64) * 31) b M := by
    intro b hb
    unfold wjX7_digest_77
    refine eqv ?_
    unfold wpX7_clock
    refine eqv (f_covered hE.1 hE.2.1 (eqv ?_))
    unfold wpX7_lost
    refine eqv ?_
    unfold wpX7_restless
    refine eqv ?_
    unfold wpX7_looked
    refine eqv (f_ds hE (f_dgV hE ?_))
    rw [hb]; exact h
  exact brp0 (fun q => key 0 (by rw [if_neg q])) (fun q => key 1 (by rw [if_pos q]))
/-- the trial alone changed: the same checksum -/
theorem dgF_same {M M' : pt_M} {c : pC} (h : frM 133 M M') : dgF C n m c M' = dgF C n m c M := by
  unfold dgF
  have e : raV M' = raV M := funext fun i => by unfold raV; rw [h 141 (by omega), h 142 (by omega)]
  rw [e, h 125 (by omega), h 130 (by omega), h 141 (by omega)]
end
