/-! ===== the law's sixteen calls and its end ===== -/
section
variable {C : pt_M} {n m : Nat} {xL : Nat} {xs : Nat → Int32} {Q : Unit}
theorem lw_426 {M : pt_M} {c : pC} {s : Nat} {x6 : Int32} {L : List Nat} (hE : enO C n m c M) (hs : s < n) (hL2 : L.length ≤ 2) (hL10 : ∀ e ∈ L, e ≤ 10) (hf : ∀ i e, L[i]? = some e → raV M i = nI e) (hf' : ∀ i, i < 2 → L.length ≤ i → raV M i = -1) (h6 : x6 = nI L.length ∨ (L = [] ∧ x6 = -1)) (hb : ¬ x6 < 0 → bt (rnC C n m L c).1 s = true) : wjL_law_426 xL xs Q (nI s) x6 M := by
  unfold wjL_law_426
  rw [show (0 : Int32) = nI 0 from i0]
  refine f_rowAt (by omega) (eqv ?_)
  rw [show (1 : Int32) = nI 1 from rfl]
  refine f_rowAt (by omega) (eqv ?_)
  have e0 : upd (upd (fun _ => nI 0) (nI 0).toNatClampNeg (raV M 0)) (nI 1).toNatClampNeg (raV M 1) 0 = raV M 0 := rfl
  have e1 : upd (upd (fun _ => nI 0) (nI 0).toNatClampNeg (raV M 0)) (nI 1).toNatClampNeg (raV M 1) 1 = raV M 1 := rfl
  have hget : ∀ i, i < 2 → upd (upd (fun _ => nI 0) (nI 0).toNatClampNeg (raV M 0)) (nI 1).toNatClampNeg (raV M 1) i = raV M i := fun i hi => by
    rcases (show i = 0 ∨ i = 1 by omega) with rfl | rfl
    · exact e0
    · exact e1
  refine lw_450 hE hs hL2 hL10 (fun i e h => ?_) (fun i hi h => ?_) h6 hb
  · have hil : i < L.length := by
      rcases Nat.lt_or_ge i L.length with z | z
      · exact z
      · rw [List.getElem?_eq_none z] at h; cases h
    rw [hget i (by omega)]; exact hf i e h
  · rw [hget i hi]; exact hf' i hi h
theorem raV_row {M : pt_M} {L : List Nat} (h : rowO L M) (hL2 : L.length ≤ 2) : (∀ i e, L[i]? = some e → raV M i = nI e) ∧ ∀ i, i < 2 → L.length ≤ i → raV M i = -1 := by
  have hlen : ∀ i, i < 2 → ((0 ≤ nI i ∧ nI i ≤ M 141 1 - 1) ↔ i < L.length) := by
    intro i hi
    rw [h.1]
    rcases Nat.lt_or_ge 0 L.length with z | z
    · obtain ⟨l, e⟩ : ∃ l, L.length = l + 1 := ⟨L.length - 1, by omega⟩
      rw [e, nI_pred, nI_leI (by omega) (by omega)]
      exact ⟨fun y => by omega, fun y => ⟨nI_le (a := 0) (Nat.zero_le _) (by omega), by omega⟩⟩
    · have e : L.length = 0 := by omega
      rw [e]
      refine ⟨fun y => ?_, fun y => absurd y (Nat.not_lt_zero _)⟩
      have h1 : nI i ≤ -1 := y.2
      exact absurd (Int32.lt_of_le_of_lt h1 (by decide : (-1 : Int32) < 0)) (nI_pos (by omega))
  refine ⟨fun i e he => ?_, fun i hi hl => ?_⟩
  · have hil : i < L.length := by
      rcases Nat.lt_or_ge i L.length with z | z
      · exact z
      · rw [List.getElem?_eq_none z] at he; cases he
    unfold raV
    rw [if_pos ((hlen i (by omega)).mpr hil)]
    exact h.2 i e he
  · unfold raV
    rw [if_neg (fun y => absurd ((hlen i hi).mp y) (by omega))]
/-- the law's end: a row is looked for and played -/
theorem lw_end {M : pt_M} {c : pC} {g s : Nat} {f2 : Nat → Int32} (hE : enO C n m c M) (hI : invC C n g c) (hf : ∀ s, s < n → f2 s = C (5 + 3 * s) 2) (hs : s < n) : wpX7_rowTo (nI s) 2 M (fun (r_361 : Int32) (M_361 : pt_M) => wpX7_active M_361 (fun (r_367 : Int32) (M_367 : pt_M) => (¬ r_367 = c.1 → wjL_law_424 xL xs Q M_367) ∧ (r_367 = c.1 → (¬ r_361 = 0 → wjL_law_385 xL xs Q (nI s) c.1 r_361 0 n f2 M_367) ∧ (r_361 = 0 → wjL_law_385 xL xs Q (nI s) c.1 r_361 1 n f2 M_367)))) := by
  obtain ⟨hn, hn1, h20⟩ := hE.2.1.n
  have hO := hE.2.1
  have hci : (nI s).toNatClampNeg = s := nI_clamp (by omega)
  have hin := nI_in' (c := s) (N := n) hs (by omega)
  have hact : ∀ M', enO C n m c M' → M' (125 + 1) 3 = c.1 := fun M' h => h.2.2.2.1.1
  have k2 : ∀ (L : List Nat), bt (rnC C n m L c).1 s = true → f2 s ≤ 2 := fun L hb => by
    obtain ⟨g', hi⟩ := rnC_inv hO (L := L) hI
    rw [hf s hs]
    exact (k_le hO hs (k := 2) (by omega)).mpr (hi.1.2.1 s (by omega) hb).2.1
  have fin : ∀ (M' : pt_M) (L : List Nat) (x6 : Int32), enO C n m c M' → rowO L M' → L.length ≤ 2 → (∀ e ∈ L, e ≤ 10) → (x6 = nI L.length ∨ (L = [] ∧ x6 = -1)) → (x6 = 0 ↔ bt c.1 s = true) → (¬ x6 < 0 → bt (rnC C n m L c).1 s = true) → wpX7_active M' (fun (r_367 : Int32) (M_367 : pt_M) => (¬ r_367 = c.1 → wjL_law_424 xL xs Q M_367) ∧ (r_367 = c.1 → (¬ x6 = 0 → wjL_law_385 xL xs Q (nI s) c.1 x6 0 n f2 M_367) ∧ (x6 = 0 → wjL_law_385 xL xs Q (nI s) c.1 x6 1 n f2 M_367))) := by
    intro M' L x6 hE' hro hL2 hL10 h6 h0 hb
    have hr := raV_row hro hL2
    have t426 : wjL_law_426 xL xs Q (nI s) x6 M' := lw_426 hE' hs hL2 hL10 hr.1 hr.2 h6 hb
    have t401 : ∀ z : Int32, wjL_law_401 xL xs Q (nI s) x6 z z n f2 M' := by
      intro z
      unfold wjL_law_401
      rw [hci]
      refine ⟨fun q => absurd rfl q, fun _ => ⟨fun q => ?_, fun _ => ⟨hin, fun _ => t426, fun q => ⟨fun _ => t426, fun q2 => ?_⟩⟩⟩⟩
      · rcases h6 with e | ⟨_, e⟩
        · rw [e] at q
          exact absurd q (nI_nlt (a := 2) hL2 (by omega))
        · rw [e] at q
          exact absurd q (by decide)
      · rcases h6 with e | ⟨_, e⟩
        · exact absurd (k2 L (hb (by rw [e]; exact nI_pos (by omega)))) q
        · exact absurd e q2
    unfold wpX7_active
    rw [hact M' hE']
    refine ⟨fun q => absurd rfl q, fun _ => ⟨fun q => ?_, fun q => ?_⟩⟩
    · unfold wjL_law_385
      refine ⟨fun _ => t401 0, fun z => absurd (h0.mpr ((b_has1 (by omega)).mp z)) q⟩
    · unfold wjL_law_385
      refine ⟨fun z => absurd ((b_has1 (by omega)).mpr (h0.mp q)) z, fun _ => t401 1⟩
  refine f_rowTo hE hs (fun M' hE' hr hb => ?_) (fun M' hE' hr hb => ?_) (fun M' L hE' hro hl0 hL2 hL10 hb hb' => ?_)
  · refine fin M' [] (-1) hE' ⟨hr, fun i e h => by cases h⟩ (Nat.zero_le _) (fun e h => absurd h List.not_mem_nil) (Or.inr ⟨rfl, rfl⟩) ⟨fun z => absurd z (by decide), fun z => ?_⟩ (fun z => absurd (by decide) z)
    rw [hb] at z; cases z
  · exact fin M' [] 0 hE' ⟨hr, fun i e h => by cases h⟩ (Nat.zero_le _) (fun e h => absurd h List.not_mem_nil) (Or.inl rfl) ⟨fun _ => hb, fun _ => rfl⟩ (fun _ => hb)
  · refine fin M' L _ hE' hro hL2 hL10 (Or.inl rfl) ⟨fun z => absurd z (nI_ne0 hl0 (by omega)), fun z => ?_⟩ (fun _ => hb')
    rw [hb] at z; cases z
/-- one round of the sixteen -/
theorem lw_37 {M : pt_M} {c : pC} {g r k : Nat} {x3 : Int32} {f2 : Nat → Int32} {R37 : Int32 → Int32 → Nat → (Nat → Int32) → pt_M → Prop} (h15 : n ≤ 15) (hI : lwI C n m g r x3 c M) (hf : ∀ s, s < n → f2 s = C (5 + 3 * s) 2) (hgk : g ≤ k) (hrk : r ≤ k + 1) (hk : k ≤ 16) (hR : ∀ x3' c' g' r' M', k < 16 → lwI C n m g' r' x3' c' M' → g' ≤ k + 1 → r' ≤ k + 2 → R37 x3' (nI (k + 1)) n f2 M') : lbL_law_37 xL xs Q R37 x3 (nI k) n f2 M := by
  have hI0 := hI
  obtain ⟨hE, hinv, h4, h6, hz, hsum⟩ := hI
  have hO := hE.2.1
  obtain ⟨hn, hn1, h20⟩ := hO.n
  unfold lbL_law_37
  refine ⟨fun _ => eqv ⟨nI_ne0 (by omega) (by omega), eqv ?_⟩, fun q => ⟨nI_pos (by omega), eqv ?_⟩⟩
  · obtain ⟨s, hs, es⟩ := below_lt (pf_cell xL xs 15) (k := n) (by omega) (by omega)
    rw [show pf_below (pf_cell xL xs 15) (Int32.ofNat n) = nI s from es]
    unfold wpX7_active
    rw [show M (125 + 1) 3 = c.1 from hE.2.2.2.1.1]
    exact lw_end hE hinv hf hs
  · have hk16 : k < 16 := by
      rcases Nat.lt_or_ge k 16 with z | z
      · exact z
      · exact absurd (nI_le (a := 16) z (by omega)) q
    have hR' := fun x3' c' g' r' M' => hR x3' c' g' r' M' hk16
    generalize pf_cell xL xs (nI k) = x5
    obtain ⟨e, he, ee⟩ := below_lt (x5 >>> (1 &&& 31)) (k := 5) (by omega) (by omega)
    refine f_digest hE (eqv ?_)
    rw [show pf_below (x5 >>> (1 &&& 31)) 5 = nI e from ee]
    refine f_wouldFire hE (by omega) fun M1 fr1 hE1 => f_wouldBe hE1 (by omega) fun M2 fr2 hE2 => f_open hE2 (f_isOver hE2 (f_digest hE2 (eqv ?_)))
    have fr : frM 133 M M2 := fr1.tr fr2
    rw [dgF_same fr, lg_self]
    have hI2 : lwI C n m g r x3 c M2 := ⟨hE2, hinv, by rw [fr 125 (by omega)]; exact h4, by rw [fr 125 (by omega)]; exact h6, hz, by rw [fr 130 (by omega)]; exact hsum⟩
    have hover : ((C 5 5 &&& C 1 6) &&& c.1) ≠ 0 → ∀ cs, pcF C n m cs c = (c, [], 0) := fun h cs => pcF_over h hE.2.2.2.2.1
    have t238 : ∀ x3' c' g' r' M', lwI C n m g' r' x3' c' M' → g' ≤ k + 1 → r' ≤ k + 2 → wjL_law_238 xL xs Q R37 x3' (nI k) n f2 M' := fun x3' c' g' r' M' h hg hr => lw_238 h.1 h.2.1 (by omega) h.2.2.1 h15 hf h.2.2.2.2.2 (hR' x3' c' g' r' M' h hg hr)
    have t149 : wjL_law_149 xL xs Q R37 x3 (nI k) x5 (nI e) (nI (pcF C n m e c).2.1.length) (pcF C n m e c).1.1 (if ((C 5 5 &&& C 1 6) &&& c.1) ≠ 0 then 1 else 0) n f2 M2 := by
      unfold wjL_law_149
      refine eqv ⟨fun _ => ?_, fun _ => ?_⟩
      · unfold wpX7_clock
        refine f_tick hE2 fun M3 fr3 hE3 g4 g6 g130 gfl => eqv ?_
        rw [g4, show M2 125 4 = nI g from hI2.2.2.1]
        by_cases ho : ((C 5 5 &&& C 1 6) &&& c.1) ≠ 0
        · obtain ⟨r', hr', hI3⟩ := lw_step hI2 (by omega) hE3 (g' := g) (by rw [g4, if_pos ho]; exact hI2.2.2.1) (by rw [if_neg (fun z => z.1 ho)]) g6 g130 gfl
          rw [if_pos ho, if_pos ho]
          refine ⟨fun z => absurd z (by decide), fun _ => ?_⟩
          unfold wjL_law_222
          rw [Int32.add_zero]
          refine ⟨fun z => absurd rfl z, fun _ => ⟨fun _ => t238 _ _ _ r' _ hI3 (by omega) (by omega), fun _ => ⟨fun _ => t238 _ _ _ r' _ hI3 (by omega) (by omega), fun z => ?_⟩⟩⟩
          rw [hover ho] at z
          exact absurd (by decide : nI 0 ≤ 0) z
        · obtain ⟨r', hr', hI3⟩ := lw_step hI2 (by omega) hE3 (g' := g + 1) (by rw [g4, if_neg ho, show M2 125 4 = nI g from hI2.2.2.1, nI_s1]) (by rw [if_pos ⟨ho, rfl⟩]) g6 g130 gfl
          rw [if_neg ho, if_neg ho]
          refine ⟨fun _ => ?_, fun z => absurd rfl z⟩
          unfold wjL_law_222
          exact ⟨fun z => absurd rfl z, fun _ => ⟨fun _ => t238 _ _ _ r' _ hI3 (by omega) (by omega), fun z => absurd rfl z⟩⟩
      · refine f_send hE2 (by omega) fun M3 fr3 hE3 g4 g6 g130 gfl => ?_
        obtain ⟨r', hr', hI3⟩ := lw_step hI2 (by omega) hE3 (g' := g) (by rw [g4]; exact hI2.2.2.1) (by rw [if_neg (fun z => absurd z.2 (by omega))]) g6 g130 gfl
        refine ⟨fun z => absurd rfl z, fun _ => ?_⟩
        unfold wpX7_active
        rw [show M3 (125 + 1) 3 = (pcF C n m e c).1.1 from hE3.2.2.2.1.1]
        exact ⟨fun _ => eqv (t238 _ _ _ r' _ hI3 (by omega) (by omega)), fun z => absurd rfl z⟩
    have t125 : wjL_law_125 xL xs Q R37 x3 (nI k) x5 (nI e) (nI (pcF C n m e c).2.1.length) (pcF C n m e c).1.1 (onF C n m c) (if ((C 5 5 &&& C 1 6) &&& c.1) ≠ 0 then 1 else 0) n f2 M2 := by
      unfold wjL_law_125 wpX7_restless
      refine ⟨fun _ => t149, fun z => ⟨fun _ => t149, fun z2 => ⟨fun _ => t149, fun z3 => ?_⟩⟩⟩
      have hr0 : r = 0 := by
        have h6' := hI2.2.2.2.1
        rw [z2] at h6'
        rcases Nat.eq_zero_or_pos r with y | y
        · exact y
        · exact absurd h6'.symm (nI_ne0 y (by omega))
      rw [b_has0 (by omega)] at z
      unfold onF at z
      rw [b_mk (by omega), decide_eq_true (show e < 10 by omega), Bool.true_and] at z
      have hop : opC C n m c e = 0 := Classical.byContradiction fun y => (of_decide_eq_false z) y
      rcases hz hr0 with y | y
      · rw [hover y] at z3
        exact absurd nI_0 z3
      · rw [pcF_calm (by omega) (by omega) y hop] at z3
        exact absurd nI_0 z3
    refine ⟨fun z => absurd rfl z, fun _ => brp0 (fun ho => ?_) (fun ho => ?_)⟩
    · exact t125
    · rw [hover ho] at t125 ⊢
      unfold wpX7_active
      rw [show M2 (125 + 1) 3 = c.1 from hE2.2.2.2.1.1]
      exact ⟨fun z => absurd nI_0 z, fun _ => ⟨fun z => absurd rfl z, fun _ => t125⟩⟩
end
