/-! ===== a chart is sound between calls ===== -/
theorem cntN_hi {f : Nat → Bool} {n : Nat} (h : ∀ i, n ≤ i → f i = false) : ∀ {d}, cntN f (n + d) = cntN f n
  | 0 => rfl
  | d + 1 => by
    rw [show n + (d + 1) = (n + d) + 1 from rfl, cntN, h (n + d) (by omega), cntN_hi h]
    rfl
theorem cntN_z {f : Nat → Bool} : ∀ {k}, (∀ i, i < k → f i = false) → cntN f k = 0
  | 0, _ => rfl
  | k + 1, h => by rw [cntN, h k (Nat.lt_succ_self _), cntN_z (fun i hi => h i (by omega))]; rfl
theorem cntN_one {f : Nat → Bool} {u : Nat} (hu : f u = true) : ∀ {k}, u < k → (∀ v, v < k → f v = true → v = u) → cntN f k = 1
  | 0, h, _ => absurd h (Nat.not_lt_zero _)
  | k + 1, h, h1 => by
    rw [cntN]
    by_cases e : k = u
    · subst e
      rw [if_pos hu, cntN_z (fun i hi => ?_)]
      cases hf : f i
      · rfl
      · exact absurd (h1 i (by omega) hf) (by omega)
    · rw [cntN_one hu (by omega) (fun v hv => h1 v (by omega)), if_neg (fun q => e (h1 k (Nat.lt_succ_self _) q))]
theorem cntN_some {f : Nat → Bool} : ∀ {k}, 0 < cntN f k → ∃ i, i < k ∧ f i = true
  | 0, h => absurd h (Nat.not_lt_zero _)
  | k + 1, h => by
    by_cases e : f k = true
    · exact ⟨k, Nat.lt_succ_self _, e⟩
    · rw [cntN, if_neg e] at h
      obtain ⟨i, hi, q⟩ := cntN_some (k := k) h
      exact ⟨i, by omega, q⟩
def agS (c : pC) : Nat → Int32
  | 0 => 0
  | k + 1 => agS c k + (if bt c.1 k = true then c.2.1 k else 0)
theorem agS_nat {g : Nat} {c : pC} (hI : agO g c) : ∀ {k}, k ≤ 20 → ∃ v, v ≤ k * g ∧ agS c k = nI v
  | 0, _ => ⟨0, Nat.zero_le _, by rw [nI_0]; rfl⟩
  | k + 1, hk => by
    obtain ⟨v, hv, e⟩ := agS_nat hI (k := k) (by omega)
    rw [agS, e]
    by_cases hb : bt c.1 k = true
    · obtain ⟨w, hw, e2⟩ := (hI k (by omega)).1 hb
      rw [if_pos hb, e2, nI_add]
      exact ⟨v + w, by rw [Nat.succ_mul]; omega, rfl⟩
    · rw [if_neg hb, Int32.add_zero]
      exact ⟨v, by rw [Nat.succ_mul]; omega, rfl⟩
section
variable {C : pt_M} {n m : Nat}
theorem prF_lt (hO : chO C n m) {s : Nat} (hs : s < n) {i : Nat} (hi : i < 32) (h : bt (C (5 + 3 * s) 5) i = true) : i < n := ((hO.pr hs hi).mp h).1
theorem bc_parts (hO : chO C n m) (h15 : n ≤ 15) {s : Nat} (hs : s < n) : bcF (C (5 + 3 * s) 5) = nI (cntN (bt (C (5 + 3 * s) 5)) n) := by
  rw [bc_cnt (fun i hi h => Nat.lt_of_lt_of_le (prF_lt hO hs hi h) h15)]
  obtain ⟨d, e⟩ : ∃ d, 15 = n + d := ⟨15 - n, by omega⟩
  rw [e, cntN_hi (fun i hi => ?_)]
  cases hb : bt (C (5 + 3 * s) 5) i
  · rfl
  · by_cases h32 : i < 32
    · exact absurd (prF_lt hO hs h32 hb) (by omega)
    · rw [b_big (by omega)] at hb; cases hb
theorem bc_act (hO : chO C n m) (h15 : n ≤ 15) {a : Int32} (hA : lgA C n a) : bcF a = nI (cntN (bt a) n) := by
  rw [bc_cnt (fun i hi h => Nat.lt_of_lt_of_le (hA.2.1 i hi h).1 h15)]
  obtain ⟨d, e⟩ : ∃ d, 15 = n + d := ⟨15 - n, by omega⟩
  rw [e, cntN_hi (fun i hi => ?_)]
  cases hb : bt a i
  · rfl
  · by_cases h32 : i < 32
    · exact absurd (hA.2.1 i h32 hb).1 (by omega)
    · rw [b_big (by omega)] at hb; cases hb
theorem k_le (hO : chO C n m) {s : Nat} (hs : s < n) {k : Nat} (hk : k < 5) : C (5 + 3 * s) 2 ≤ nI k ↔ cK C s ≤ k := by
  have h4 := (hO.s hs).1.2
  rw [(hO.s hs).1.1, nI_leI (by omega) (by omega)]
theorem n64_of {r : UInt64} (h : FP.dIsNaN r = false) : vf_n64 r := by
  unfold vf_n64
  rw [UInt64.le_iff_toNat_le, UInt64.toNat_and, show (0x7fffffffffffffff : UInt64).toNat = 2 ^ 63 - 1 from rfl, Nat.and_two_pow_sub_one_eq_mod]
  have h2 : ¬ FP.dIsNaN r = true := by rw [h]; decide
  rw [FP.Core.isNaN_bits] at h2
  exact Nat.not_lt.mp h2
theorem mean_ok {x y : Int32} (hy : y ≠ 0) : FP.dIsNaN (FP.ddiv (FP.i2d x) (FP.i2d y)) = false := FP.Core.ddiv_out (FP.Core.i2d_fin x).notNaN (FP.Core.i2d_fin y) (fun z => FP.Core.i2d_ne_zero hy ((FP.Core.zero_bits2 _).mp z))
theorem f_meanAge {M : pt_M} {c : pC} {g : Nat} {Q : UInt64 → pt_M → Prop} (hE : enO C n m c M) (hI : invC C n g c) (h15 : n ≤ 15) (h : Q (FP.ddiv (FP.i2d (agS c n)) (FP.i2d (nI (cntN (bt c.1) n)))) M) : wpX7_meanAge M Q := by
  obtain ⟨hn, h1, h20⟩ := hE.2.1.n
  have hp : 0 < cntN (bt c.1) n := cntN_pos hI.1.1 (by omega)
  have hle : cntN (bt c.1) n ≤ n := cntN_le
  have hne : ¬ nI (cntN (bt c.1) n) = 0 := nI_ne0 hp (by omega)
  unfold wpX7_meanAge
  rw [show M (125 + 1) 3 = c.1 from hE.2.2.2.1.1]
  refine f_bitCount ?_
  rw [bc_act hE.2.1 h15 hI.1]
  refine ⟨fun _ => ?_, fun q => absurd q hne⟩
  refine lp_up (S := Int32 × Int32 × Int32 × pt_M) (lp := fun k z => lpX7_meanAge_24 Q k z.1 z.2.1 z.2.2.1 z.2.2.2) (lb := fun R z => lbX7_meanAge_24 Q (fun a b c d => R (a, b, c, d)) z.1 z.2.1 z.2.2.1 z.2.2.2) (fun _ _ => rfl) n (fun i z => z = (nI (cntN (bt c.1) n), agS c i, nI i, M)) ?_ (i := 0) (s := (nI (cntN (bt c.1) n), 0, 0, M)) (Nat.zero_le _) (by rw [i0]; rfl)
  rintro i z hi rfl R hR
  show lbX7_meanAge_24 Q (fun a b c d => R (a, b, c, d)) _ _ (nI i) M
  unfold lbX7_meanAge_24
  rw [hE.1 1 (by omega), hn, show M (125 + 1) 3 = c.1 from hE.2.2.2.1.1]
  refine ⟨fun q => ?_, fun q => ?_⟩
  · have := le_of_nI (by omega) (by omega) q
    have e : i = n := by omega
    subst e; exact ⟨n64_of (mean_ok hne), h⟩
  · have hl := lt_of_nI (by omega) (by omega) q
    unfold wjX7_meanAge_67
    refine f_has (by omega) (br0 (fun q => nx (hR _ hl ?_)) (fun q => ⟨nI_in' (by omega) (by omega), eqv (nx (hR _ hl ?_))⟩))
    · rw [agS, q, if_neg (by decide), Int32.add_zero]
    · rw [agS, q, if_pos rfl, nI_clamp (by omega), show 125 + 1 + 1 = 125 + 2 from rfl, hE.2.2.2.1.2.1 i (by omega)]
/-- behind the parts of one state -/
theorem so_end {M : pt_M} {c : pC} {g i : Nat} {f0 : Nat → Int32} {x3 : Int32} {Q : Int32 → pt_M → Prop} {R18 : Int32 → Int32 → Int32 → pt_M → Prop} (hE : enO C n m c M) (hI : invC C n g c) (hg : g < 2 ^ 31) (hk : M 125 4 = nI g) (h15 : n ≤ 15) (hf : ∀ s, s < n → f0 s = C (5 + 3 * s) 2) (hi : i < n) (h : R18 c.1 (x3 + (if bt c.1 i = true then c.2.1 i else 0)) (nI (i + 1)) M) :
    wpX7_ofState (nI i) 3 M (fun (r_114 : Int32) (M_114 : pt_M) => (¬ r_114 = nI (cntN (bt (C (5 + 3 * i) 5)) n) → wjL_isSound_186 n f0 Q M_114) ∧ (r_114 = nI (cntN (bt (C (5 + 3 * i) 5)) n) → wpX7_ageOf (nI i) M_114 (fun (r_125 : Int32) (M_125 : pt_M) => (r_125 < 0 → wjL_isSound_136 n f0 Q R18 c.1 x3 (nI i) (if bt c.1 i = true then 1 else 0) (C (5 + 3 * i) 3) (nI (cntN (bt (C (5 + 3 * i) 5)) n)) (nI (cntN (fun k => bt (C (5 + 3 * i) 5) k && bt c.1 k) n)) 0 M_125) ∧ (¬ r_125 < 0 → wjL_isSound_136 n f0 Q R18 c.1 x3 (nI i) (if bt c.1 i = true then 1 else 0) (C (5 + 3 * i) 3) (nI (cntN (bt (C (5 + 3 * i) 5)) n)) (nI (cntN (fun k => bt (C (5 + 3 * i) 5) k && bt c.1 k) n)) 1 M_125)))) := by
  have hC := hE.1
  have hO := hE.2.1
  obtain ⟨hn, h1, h20⟩ := hO.n
  have hle : ∀ f, cntN f n ≤ n := fun f => cntN_le
  refine f_ofState3 hC hO hi ⟨fun q => absurd (bc_parts hO h15 hi) q, fun _ => f_ageOf hE hi ?_⟩
  cases hb : bt c.1 i
  · have hag : c.2.1 i = -1 := (hI.2.2 i (by omega)).2 hb
    rw [hb, if_neg (by decide), Int32.add_zero] at h
    rw [hag, if_neg (by decide)]
    refine ⟨fun _ => ?_, fun q => absurd (by decide) q⟩
    unfold wjL_isSound_136
    refine ⟨fun q => absurd rfl q, fun _ => f_ageOf hE hi ?_⟩
    unfold wpX7_clock
    rw [hag, hk]
    refine ⟨fun q => ?_, fun _ => ⟨fun _ => ?_, fun q => absurd rfl q⟩⟩
    · have h0 : (-1 : Int32) < 0 := by decide
      exact absurd (Int32.lt_trans q h0) (nI_pos hg)
    · unfold wjL_isSound_167 wjL_isSound_188 wjL_isSound_216 wjL_isSound_228 wjL_isSound_244
      refine ⟨fun _ => ⟨fun _ => ⟨fun q => absurd rfl q, fun _ => ⟨fun _ => ⟨fun _ => eqv ?_, fun q => absurd rfl q⟩, fun q => ?_⟩⟩, fun q => absurd rfl q⟩, fun q => absurd rfl q⟩
      · rw [Int32.add_zero]; exact nx h
      · refine absurd ?_ q
        rw [cntN_z (fun k hkn => ?_), nI_0]
        · decide
        · cases hp : bt (C (5 + 3 * i) 5) k
          · rfl
          · cases ha : bt c.1 k
            · rfl
            · have hq := (hO.pr hi (by omega)).mp hp
              have hu := (hI.1.2.1 k (by omega) ha).2.2 hq.2.1
              rw [hq.2.2.1, hb] at hu; cases hu
  · obtain ⟨w, hw, hag⟩ := (hI.2.2 i (by omega)).1 hb
    have hlg := hI.1.2.2 i (by omega) hb
    have hact := hI.1.2.1 i (by omega) hb
    rw [hb, if_pos rfl] at h
    rw [hag, if_pos rfl]
    refine ⟨fun q => absurd q (nI_pos (by omega)), fun _ => ?_⟩
    unfold wjL_isSound_136
    refine ⟨fun q => absurd rfl q, fun _ => f_ageOf hE hi ?_⟩
    unfold wpX7_clock
    rw [hag, hk]
    refine ⟨fun q => absurd q (nI_nlt hw hg), fun _ => ⟨fun q => absurd q (by decide), fun _ => ⟨nI_in' hi (by omega), fun q => ?_, fun _ => ?_⟩⟩⟩
    · rw [nI_clamp (by omega), hf i hi] at q
      have := (k_le hO hi (k := 2) (by omega)).mpr hact.2.1
      exact absurd q (Int32.not_lt.mpr this)
    · have t228 : wjL_isSound_228 n f0 Q R18 c.1 x3 (nI i) 1 M := by
        unfold wjL_isSound_228 wjL_isSound_244
        exact ⟨fun q => absurd q (by decide), fun _ => f_ageOf hE hi (eqv (nx h))⟩
      have t216 : ∀ x8, wjL_isSound_216 n f0 Q R18 c.1 x3 (nI i) 1 x8 M := by
        intro x8
        unfold wjL_isSound_216
        exact ⟨fun _ => t228, fun q => absurd q (by decide)⟩
      have t188 : wjL_isSound_188 n f0 Q R18 c.1 x3 (nI i) 1 (nI (cntN (bt (C (5 + 3 * i) 5)) n)) (nI (cntN (fun k => bt (C (5 + 3 * i) 5) k && bt c.1 k) n)) M := by
        unfold wjL_isSound_188 wjL_isSound_213
        refine ⟨fun q => absurd q (by decide), fun _ => ⟨fun _ => t216 _, fun q => ⟨nI_in' hi (by omega), ?_⟩⟩⟩
        rw [nI_clamp (by omega), hf i hi]
        have hpos : 0 < cntN (bt (C (5 + 3 * i) 5)) n := Nat.pos_of_ne_zero fun z => q (by rw [z, nI_0]; decide)
        obtain ⟨u, hu, hpu⟩ := cntN_some hpos
        have hne : C (5 + 3 * i) 5 ≠ 0 := b_ne0.mpr ⟨u, by omega, hpu⟩
        have hk1 : cK C i ≤ 1 := by
          have := hO.pr hi (i := u) (by omega)
          have e := this.mp hpu
          have := hO.pa (i := u) e.1 e.2.1
          rw [e.2.2.1] at this
          exact this.2
        refine ⟨fun q2 => ⟨fun q3 => absurd ?_ q3, fun _ => t216 _⟩, fun q2 => ⟨fun q3 => absurd ?_ q3, fun _ => t216 _⟩⟩
        · have hk2 : cK C i = 1 := by
            have : cK C i ≠ 0 := fun z => q2 (by rw [(hO.k hi (k := 0) (by omega)).mpr z, nI_0])
            omega
          congr 1
          exact cntN_congr fun k hkn => by
            cases hp : bt (C (5 + 3 * i) 5) k
            · rfl
            · rw [hlg.2 hk2 k (by omega) hp]; rfl
        · have hk2 : cK C i = 0 := (hO.k hi (k := 0) (by omega)).mp (by rw [q2, nI_0])
          obtain ⟨v, hv, h2, h3, h4⟩ := hlg.1 hk2 hne
          have hvn := prF_lt hO hi hv h2
          rw [cntN_one (f := fun k => bt (C (5 + 3 * i) 5) k && bt c.1 k) (u := v) (by rw [h2, h3]; rfl) hvn (fun z hz hzz => ?_)]
          · rfl
          · rw [Bool.and_eq_true] at hzz
            exact h4 z (by omega) hzz.1 hzz.2
      unfold wjL_isSound_167
      refine ⟨fun q => absurd q (by decide), fun _ => ⟨fun _ => t188, fun q => ⟨fun _ => t188, fun q2 => ?_⟩⟩⟩
      by_cases e0 : i = 0
      · subst e0
        exact absurd (by rw [show C (5 + 3 * 0) 3 = -1 from hO.2.2.1.2]; decide) q
      · have hp := (hO.s hi).2.1 (by omega)
        have hu := hact.2.2 (by omega)
        rw [hp.1, b_has0 (by omega), hu] at q2
        cases q2
theorem part_at (hO : chO C n m) {i j : Nat} (hi : i < n) (hj : j < n) : bt (C (5 + 3 * i) 5) j = true ↔ C (5 + 3 * j) 3 = nI i ∧ C (5 + 3 * j) 2 ≤ 2 := by
  obtain ⟨hn, h1, h20⟩ := hO.n
  rw [hO.pr hi (by omega), show C (5 + 3 * j) 2 ≤ 2 ↔ cK C j ≤ 2 from k_le hO hj (k := 2) (by omega)]
  by_cases e0 : j = 0
  · subst e0
    constructor
    · intro h; omega
    · intro h
      have h3 : C (5 + 3 * 0) 3 = -1 := hO.2.2.1.2
      rw [h3] at h
      have : (-1 : Int32) < 0 := by decide
      rw [h.1] at this
      exact absurd this (nI_pos (by omega))
  · have hp := (hO.s hj).2.1 (by omega)
    rw [hp.1, nI_eq (by omega) (by omega)]
    constructor
    · intro h; exact ⟨h.2.2.1, h.2.2.2⟩
    · intro h; exact ⟨hj, by omega, h.1, h.2⟩
theorem so_in {M : pt_M} {c : pC} {g i : Nat} {f0 : Nat → Int32} {x3 : Int32} {Q : Int32 → pt_M → Prop} {R18 : Int32 → Int32 → Int32 → pt_M → Prop} (hE : enO C n m c M) (hI : invC C n g c) (hg : g < 2 ^ 31) (hk : M 125 4 = nI g) (h15 : n ≤ 15) (hf : ∀ s, s < n → f0 s = C (5 + 3 * s) 2) (hi : i < n) (h : R18 c.1 (x3 + (if bt c.1 i = true then c.2.1 i else 0)) (nI (i + 1)) M) : wjL_isSound_40 n f0 Q R18 c.1 x3 (nI i) (if bt c.1 i = true then 1 else 0) M := by
  have hC := hE.1
  have hO := hE.2.1
  obtain ⟨hn, h1, h20⟩ := hO.n
  unfold wjL_isSound_40
  refine f_ofState1 hC hO hi ?_
  generalize hbb : (if bt c.1 i = true then (1 : Int32) else 0) = bb
  have key := fun hb => so_end (Q := Q) (R18 := R18) (x3 := x3) hE hI hg hk h15 hf hi hb
  have key := key h
  rw [hbb] at key
  refine lp_up (S := Int32 × Int32 × Int32 × Int32 × Int32 × Int32 × Int32 × Int32 × pt_M) (lp := fun k z => lpL_isSound_60 n f0 Q R18 k z.1 z.2.1 z.2.2.1 z.2.2.2.1 z.2.2.2.2.1 z.2.2.2.2.2.1 z.2.2.2.2.2.2.1 z.2.2.2.2.2.2.2.1 z.2.2.2.2.2.2.2.2) (lb := fun R z => lbL_isSound_60 n f0 Q R18 (fun a b c d e f g h i => R (a, b, c, d, e, f, g, h, i)) z.1 z.2.1 z.2.2.1 z.2.2.2.1 z.2.2.2.2.1 z.2.2.2.2.2.1 z.2.2.2.2.2.2.1 z.2.2.2.2.2.2.2.1 z.2.2.2.2.2.2.2.2) (fun _ _ => rfl) n (fun k z => z = (c.1, x3, nI i, bb, C (5 + 3 * i) 3, nI (cntN (bt (C (5 + 3 * i) 5)) k), nI (cntN (fun k => bt (C (5 + 3 * i) 5) k && bt c.1 k) k), nI k, M)) ?_ (i := 0) (s := (c.1, x3, nI i, bb, C (5 + 3 * i) 3, 0, 0, 0, M)) (Nat.zero_le _) (by rw [i0]; rfl)
  rintro j z hj rfl R hR
  show lbL_isSound_60 n f0 Q R18 (fun a b c d e f g h i => R (a, b, c, d, e, f, g, h, i)) c.1 x3 (nI i) bb (C (5 + 3 * i) 3) (nI (cntN (bt (C (5 + 3 * i) 5)) j)) (nI (cntN (fun k => bt (C (5 + 3 * i) 5) k && bt c.1 k) j)) (nI j) M
  unfold lbL_isSound_60
  refine ⟨fun q => ?_, fun q => ?_⟩
  · have := le_of_nI (by omega) (by omega) q
    have e : j = n := by omega
    subst e; exact key
  · have hl : j < n := lt_of_nI (by omega) (by omega) q
    have hpt := part_at hO hi hl
    unfold wjL_isSound_104
    refine f_ofState1 hC hO hl ⟨fun q1 => nx (hR _ hl ?_), fun q1 => ⟨nI_in' hl (by omega), ?_⟩⟩
    · have hb : bt (C (5 + 3 * i) 5) j = false := by
        cases hb : bt (C (5 + 3 * i) 5) j
        · rfl
        · exact absurd (hpt.mp hb).1 q1
      rw [cntN, cntN, hb, Bool.false_and, if_neg (by decide)]
      rfl
    · rw [nI_clamp (by omega), hf j hl]
      refine ⟨fun q2 => eqv (eqv (nx (hR _ hl ?_))), fun q2 => nx (hR _ hl ?_)⟩
      · have hb := hpt.mpr ⟨q1, q2⟩
        rw [cntN, cntN, hb, Bool.true_and, if_pos rfl, nI_s1, b_has (by omega)]
        congr 6
        cases bt c.1 j
        · rw [if_neg (by decide), if_neg (by decide), Int32.add_zero]
          rfl
        · rw [if_pos rfl, if_pos rfl, nI_s1]
      · have hb : bt (C (5 + 3 * i) 5) j = false := by
          cases hb : bt (C (5 + 3 * i) 5) j
          · rfl
          · exact absurd (hpt.mp hb).2 q2
        rw [cntN, cntN, hb, Bool.false_and, if_neg (by decide)]
        rfl
theorem f_isSound {M : pt_M} {c : pC} {g : Nat} {f0 : Nat → Int32} {Q : Int32 → pt_M → Prop} (hE : enO C n m c M) (hI : invC C n g c) (hg : g < 2 ^ 31) (hk : M 125 4 = nI g) (h15 : n ≤ 15) (hf : ∀ s, s < n → f0 s = C (5 + 3 * s) 2) (h : Q 1 M) : wpL_isSound n f0 M Q := by
  have hC := hE.1
  have hO := hE.2.1
  obtain ⟨hn, h1, h20⟩ := hO.n
  have hp : 0 < cntN (bt c.1) n := cntN_pos hI.1.1 (by omega)
  have hle : cntN (bt c.1) n ≤ n := cntN_le
  have hne : ¬ nI (cntN (bt c.1) n) = 0 := nI_ne0 hp (by omega)
  unfold wpL_isSound wpX7_active
  rw [show M (125 + 1) 3 = c.1 from hE.2.2.2.1.1]
  have ha1 : c.1 &&& 1 ≠ 0 := by
    have := b_has (x := c.1) (k := 0) (by omega)
    rw [hI.1.1, if_pos rfl] at this
    have e : c.1 >>> (nI 0 &&& 31) = c.1 := by
      apply b_ext
      intro i hi
      rw [b_sshr 0 (by omega) _ hi, Nat.zero_add, if_pos hi]
    rw [e] at this
    rw [this]; decide
  refine ⟨fun _ => ?_, fun q => absurd q ha1⟩
  refine lp_up (S := Int32 × Int32 × Int32 × pt_M) (lp := fun k z => lpL_isSound_18 n f0 Q k z.1 z.2.1 z.2.2.1 z.2.2.2) (lb := fun R z => lbL_isSound_18 n f0 Q (fun a b c d => R (a, b, c, d)) z.1 z.2.1 z.2.2.1 z.2.2.2) (fun _ _ => rfl) n (fun i z => z = (c.1, agS c i, nI i, M)) ?_ (i := 0) (s := (c.1, 0, 0, M)) (Nat.zero_le _) (by rw [i0]; rfl)
  rintro i z hi rfl R hR
  show lbL_isSound_18 n f0 Q (fun a b c d => R (a, b, c, d)) _ _ (nI i) M
  unfold lbL_isSound_18
  refine ⟨fun q => ?_, fun q => ?_⟩
  · have := le_of_nI (by omega) (by omega) q
    have e : i = n := by omega
    subst e
    refine f_meanAge hE hI h15 (f_bitCount ?_)
    rw [bc_act hO h15 hI.1]
    have hnn := mean_ok (x := agS c i) hne
    refine ⟨n64_of hnn, eqv ?_⟩
    have e : FP.dcmp (FP.ddiv (FP.i2d (agS c i)) (FP.i2d (nI (cntN (bt c.1) i)))) (FP.ddiv (FP.i2d (agS c i)) (FP.i2d (nI (cntN (bt c.1) i)))) = some .eq := FP.Core.dcmp_self ((FP.Core.notNaN_iff _).mp hnn)
    dsimp only
    rw [e]
    exact ⟨fun z => absurd rfl z, fun _ => ⟨Or.inr rfl, h⟩⟩
  · have hl := lt_of_nI (by omega) (by omega) q
    have key := so_in (Q := Q) (R18 := fun a b c d => R (a, b, c, d)) (x3 := agS c i) hE hI hg hk h15 hf hl (hR _ hl rfl)
    refine ⟨fun z => ?_, fun z => ?_⟩
    · rw [if_neg (fun w => z ((b_has1 (by omega)).mpr w))] at key; exact key
    · rw [if_pos ((b_has1 (by omega)).mp z)] at key; exact key
end
