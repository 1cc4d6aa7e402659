-- Int32 by its bits: begun with a family of the kit's BITS (given for pasting)
/-! ===== Int32 by its bits: bt x i ===== -/
def bt (x : Int32) (i : Nat) : Bool := x.toBitVec.getLsbD i
theorem b_ext {x y : Int32} (h : ∀ i, i < 32 → bt x i = bt y i) : x = y := Int32.toBitVec_inj.mp (BitVec.eq_of_getLsbD_eq (fun i hi => h i hi))
theorem b_or (x y : Int32) (i : Nat) : bt (x ||| y) i = (bt x i || bt y i) := by unfold bt; rw [Int32.toBitVec_or, BitVec.getLsbD_or]
theorem b_and (x y : Int32) (i : Nat) : bt (x &&& y) i = (bt x i && bt y i) := by unfold bt; rw [Int32.toBitVec_and, BitVec.getLsbD_and]
theorem b_xor (x y : Int32) (i : Nat) : bt (x ^^^ y) i = (bt x i ^^ bt y i) := by unfold bt; rw [Int32.toBitVec_xor, BitVec.getLsbD_xor]
theorem b_big {x : Int32} {i : Nat} (h : 32 ≤ i) : bt x i = false := BitVec.getLsbD_of_ge _ _ h
theorem b_255 (i : Nat) : bt 255 i = decide (i < 8) := by
  rcases Nat.lt_or_ge i 32 with h | h
  · exact (by decide +kernel : ∀ i, i < 32 → bt 255 i = decide (i < 8)) i h
  · rw [b_big h, decide_eq_false (by omega)]
theorem b_65535 (i : Nat) : bt 65535 i = decide (i < 16) := by
  rcases Nat.lt_or_ge i 32 with h | h
  · exact (by decide +kernel : ∀ i, i < 32 → bt 65535 i = decide (i < 16)) i h
  · rw [b_big h, decide_eq_false (by omega)]
theorem b_m1 : ∀ i, i < 32 → bt (-1) i = true := by decide +kernel
theorem b_0 (i : Nat) : bt 0 i = false := BitVec.getLsbD_zero
theorem s_l : ∀ n, n < 32 → ((nI n &&& 31).toBitVec.smod 32).toNat = n := by decide +kernel
theorem s_u : ∀ n, n < 32 → (((nI n).toUInt32 &&& Int32.toUInt32 31).toBitVec % 32).toNat = n := by decide +kernel
theorem b_shl (n : Nat) (hn : n < 32) (x : Int32) {i : Nat} (hi : i < 32) : bt (x <<< (nI n &&& 31)) i = (decide (n ≤ i) && bt x (i - n)) := by
  unfold bt
  rw [Int32.toBitVec_shiftLeft]
  show (x.toBitVec <<< ((nI n &&& 31).toBitVec.smod 32).toNat).getLsbD i = _
  rw [s_l n hn, BitVec.getLsbD_shiftLeft]
  rcases Nat.lt_or_ge i n with h | h
  · simp [h, Nat.not_le.mpr h]
  · simp [hi, h, Nat.not_lt.mpr h]
theorem b_ushr (n : Nat) (hn : n < 32) (x : Int32) (i : Nat) : bt ((x.toUInt32 >>> ((nI n).toUInt32 &&& Int32.toUInt32 31)).toInt32) i = bt x (n + i) := by
  show (x.toUInt32 >>> ((nI n).toUInt32 &&& Int32.toUInt32 31)).toBitVec.getLsbD i = x.toUInt32.toBitVec.getLsbD (n + i)
  rw [UInt32.toBitVec_shiftRight]
  show (x.toUInt32.toBitVec >>> (((nI n).toUInt32 &&& Int32.toUInt32 31).toBitVec % 32).toNat).getLsbD i = _
  rw [s_u n hn, BitVec.getLsbD_ushiftRight]
theorem b_sshr (n : Nat) (hn : n < 32) (x : Int32) {i : Nat} (hi : i < 32) : bt (x >>> (nI n &&& 31)) i = if n + i < 32 then bt x (n + i) else bt x 31 := by
  unfold bt
  rw [Int32.toBitVec_shiftRight]
  show (x.toBitVec.sshiftRight ((nI n &&& 31).toBitVec.smod 32).toNat).getLsbD i = _
  rw [s_l n hn, BitVec.getLsbD_sshiftRight, BitVec.msb_eq_getLsbD_last]
  simp [hi]
/-! ===== sets: one bit, a set out of a test ===== -/
theorem b_1 : ∀ i, i < 32 → bt 1 i = decide (i = 0) := by decide +kernel
def s1 (k : Nat) : Int32 := 1 <<< (nI k &&& 31)
theorem b_s1 {k : Nat} (hk : k < 32) {i : Nat} (hi : i < 32) : bt (s1 k) i = decide (i = k) := by
  unfold s1
  rw [b_shl k hk 1 hi]
  by_cases h : k ≤ i
  · rw [b_1 _ (by omega)]
    by_cases e : i = k
    · subst e; simp
    · rw [decide_eq_false (show ¬ i - k = 0 by omega), decide_eq_false e, Bool.and_false]
  · rw [decide_eq_false h, decide_eq_false (show ¬ i = k by omega), Bool.false_and]
theorem b_not (x : Int32) {i : Nat} (hi : i < 32) : bt (x ^^^ (-1)) i = !bt x i := by
  rw [b_xor, b_m1 i hi, Bool.xor_true]
def mkN (f : Nat → Bool) : Nat → Int32
  | 0 => 0
  | k + 1 => mkN f k ||| (if f k = true then s1 k else 0)
def mk (f : Nat → Bool) : Int32 := mkN f 32
theorem b_mkN {f : Nat → Bool} {i : Nat} (hi : i < 32) : ∀ {k : Nat}, k ≤ 32 → bt (mkN f k) i = (decide (i < k) && f i)
  | 0, _ => by rw [mkN, b_0, decide_eq_false (Nat.not_lt_zero _), Bool.false_and]
  | k + 1, hk => by
    rw [mkN, b_or, b_mkN hi (Nat.le_of_succ_le hk)]
    by_cases e : i = k
    · subst e
      rw [decide_eq_false (Nat.lt_irrefl _), decide_eq_true (Nat.lt_succ_self _)]
      cases h : f i
      · rw [if_neg (by decide), b_0]; rfl
      · rw [if_pos rfl, b_s1 hi hi, decide_eq_true rfl]; rfl
    · have e2 : bt (if f k = true then s1 k else 0) i = false := by
        split
        · rw [b_s1 (by omega) hi, decide_eq_false e]
        · exact b_0 _
      rw [e2, Bool.or_false]
      by_cases h : i < k
      · rw [decide_eq_true h, decide_eq_true (Nat.lt_succ_of_lt h)]
      · rw [decide_eq_false h, decide_eq_false (by omega)]
theorem b_mk {f : Nat → Bool} {i : Nat} (hi : i < 32) : bt (mk f) i = f i := by
  rw [mk, b_mkN hi (Nat.le_refl _), decide_eq_true hi, Bool.true_and]
theorem mk_ext {f : Nat → Bool} {x : Int32} (h : ∀ i, i < 32 → bt x i = f i) : x = mk f := b_ext (fun i hi => (h i hi).trans (b_mk hi).symm)
theorem mk_bt (x : Int32) : mk (bt x) = x := (mk_ext (fun _ _ => rfl)).symm
theorem mk_congr {f g : Nat → Bool} (h : ∀ i, i < 32 → f i = g i) : mk f = mk g := mk_ext (fun i hi => (b_mk hi).trans (h i hi))
theorem b_ne0 {x : Int32} : x ≠ 0 ↔ ∃ i, i < 32 ∧ bt x i = true := by
  constructor
  · intro h
    refine Classical.byContradiction fun q => h (b_ext fun i hi => ?_)
    rw [b_0]
    cases e : bt x i
    · rfl
    · exact absurd ⟨i, hi, e⟩ q
  · rintro ⟨i, _, h⟩ rfl
    rw [b_0] at h
    cases h
theorem b_eq0 {x : Int32} : x = 0 ↔ ∀ i, i < 32 → bt x i = false := by
  constructor
  · rintro rfl i _
    exact b_0 i
  · intro h
    exact b_ext fun i hi => by rw [h i hi, b_0]
theorem b_has {x : Int32} {k : Nat} (hk : k < 32) : ((x >>> (nI k &&& 31)) &&& 1) = (if bt x k = true then 1 else 0) := by
  refine b_ext fun i hi => ?_
  rw [b_and, b_1 i hi]
  by_cases h0 : i = 0
  · subst h0
    rw [b_sshr k hk x hi, if_pos (show k + 0 < 32 by omega), Nat.add_zero]
    cases bt x k <;> decide
  · rw [decide_eq_false h0, Bool.and_false]
    split
    · rw [b_1 i hi, decide_eq_false h0]
    · rw [b_0]
theorem b_has0 {x : Int32} {k : Nat} (hk : k < 32) : ((x >>> (nI k &&& 31)) &&& 1) = 0 ↔ bt x k = false := by
  rw [b_has hk]
  cases bt x k <;> decide
theorem b_has1 {x : Int32} {k : Nat} (hk : k < 32) : ((x >>> (nI k &&& 31)) &&& 1) = 1 ↔ bt x k = true := by
  rw [b_has hk]
  cases bt x k <;> decide
/-! ===== loops with fuel ===== -/
theorem lp_wf {S : Type} {lp : Nat → S → Prop} {lb : (S → Prop) → S → Prop} (hs : ∀ n s, lp (n + 1) s = lb (lp n) s) (I : Nat → S → Prop) (h : ∀ k s, I k s → ∀ R : S → Prop, (∀ j s', j < k → I j s' → R s') → lb R s) : ∀ (n k : Nat) (s : S), k < n → I k s → lp n s
  | 0, k, s, hk, _ => absurd hk (Nat.not_lt_zero _)
  | n + 1, k, s, hk, hI => by
    rw [hs]
    exact h k s hI _ (fun j s' hj hI' => lp_wf hs I h n j s' (by omega) hI')
/-- a loop that counts up from i to N -/
theorem lp_up {S : Type} {lp : Nat → S → Prop} {lb : (S → Prop) → S → Prop} (hs : ∀ n s, lp (n + 1) s = lb (lp n) s) (N : Nat) (I : Nat → S → Prop) (h : ∀ i s, i ≤ N → I i s → ∀ R : S → Prop, (∀ s', i < N → I (i + 1) s' → R s') → lb R s) {i : Nat} {s : S} (hi : i ≤ N) (h0 : I i s) : ∃ n, lp n s :=
  ⟨N - i + 1, lp_wf hs (fun k s => ∃ i, i ≤ N ∧ k = N - i ∧ I i s) (fun k s ⟨i, hiN, hk, hI⟩ R hR => h i s hiN hI R (fun s' hlt hI' => hR (N - (i + 1)) s' (by omega) ⟨i + 1, by omega, rfl, hI'⟩)) _ (N - i) s (by omega) ⟨i, hi, rfl, h0⟩⟩
/-- a loop that counts down from i to 0: I i before the round of i - 1 -/
theorem lp_down {S : Type} {lp : Nat → S → Prop} {lb : (S → Prop) → S → Prop} (hs : ∀ n s, lp (n + 1) s = lb (lp n) s) (I : Nat → S → Prop) (h : ∀ i s, I i s → ∀ R : S → Prop, (∀ j s', i = j + 1 → I j s' → R s') → lb R s) {i : Nat} {s : S} (h0 : I i s) : ∃ n, lp n s :=
  ⟨i + 1, lp_wf hs I (fun k s hI R hR => h k s hI R (fun j s' e hI' => hR j s' (by omega) hI')) _ i s (by omega) h0⟩
theorem nI_in' {c N : Nat} (h : c < N) (hN : N < 2 ^ 31) : vp_in (nI c) N := nI_in h hN
theorem nI_c {n : Nat} (h : n < 2 ^ 31) : (nI n).toNatClampNeg = n := nI_clamp h
theorem pt_s_n {n : Nat} (h : n < 2 ^ 31) : pt_s (nI n) = 5 + 3 * n := by unfold pt_s; rw [nI_clamp h]
theorem pt_t_n {n : Nat} (h : n < 2 ^ 31) : pt_t (nI n) = 65 + 2 * n := by unfold pt_t; rw [nI_clamp h]
theorem pt_q_n {n : Nat} (h : n < 2 ^ 31) : pt_q (nI n) = 147 + 4 * n := by unfold pt_q; rw [nI_clamp h]
/-! ===== the smallest of the class's methods ===== -/
theorem f_has {x : Int32} {k : Nat} {M : pt_M} {Q : Int32 → pt_M → Prop} (hk : k < 32) (h : Q (if bt x k = true then 1 else 0) M) : wpX7_has x (nI k) M Q := by
  unfold wpX7_has wjX7_has_13
  rw [b_has hk]
  cases e : bt x k <;> rw [e] at h
  · exact ⟨fun _ => ⟨Or.inl rfl, h⟩, fun q => absurd rfl q⟩
  · exact ⟨fun q => absurd q (by decide), fun _ => ⟨Or.inr rfl, h⟩⟩
theorem f_setOf {k : Nat} {M : pt_M} {Q : Int32 → pt_M → Prop} (h : Q (s1 k) M) : wpX7_setOf (nI k) M Q := h
theorem f_isWithin {x a b : Int32} {M : pt_M} {Q : Int32 → pt_M → Prop} (h : Q (if a ≤ x ∧ x ≤ b then 1 else 0) M) : wpX7_isWithin x a b M Q := by
  unfold wpX7_isWithin wjX7_isWithin_14 wjX7_isWithin_15
  refine ⟨fun q => ?_, fun q => ⟨fun q2 => ?_, fun q2 => ?_⟩⟩
  · rw [if_neg (fun z => absurd z.1 (Int32.not_le.mpr q))] at h
    exact ⟨Or.inl rfl, h⟩
  · rw [if_neg (fun z => absurd z.2 (Int32.not_le.mpr q2))] at h
    exact ⟨Or.inl rfl, h⟩
  · rw [if_pos ⟨Int32.not_lt.mp q, Int32.not_lt.mp q2⟩] at h
    exact ⟨Or.inr rfl, h⟩
theorem f_within {x a b : Int32} {M : pt_M} {Q : Int32 → pt_M → Prop} (h1 : a ≤ x) (h2 : x ≤ b) (h : Q 1 M) : wpX7_isWithin x a b M Q := f_isWithin (by rw [if_pos ⟨h1, h2⟩]; exact h)
theorem f_isMark {k : Nat} {M : pt_M} {Q : Int32 → pt_M → Prop} (h : Q (if M k 2 = 3 ∨ M k 2 = 4 then 1 else 0) M) : wpX5_isMark k M Q := by
  unfold wpX5_isMark wjX5_isMark_16 wjX5_isMark_21
  refine ⟨fun q => ?_, fun q => ⟨fun q2 => ?_, fun q2 => ?_⟩⟩
  · rw [if_pos (Or.inl q)] at h; exact ⟨Or.inr rfl, h⟩
  · rw [if_neg (fun z => z.elim q q2)] at h; exact ⟨Or.inl rfl, h⟩
  · rw [if_pos (Or.inr q2)] at h; exact ⟨Or.inr rfl, h⟩
theorem f_isHolder {k : Nat} {M : pt_M} {Q : Int32 → pt_M → Prop} (h : Q (if M k 2 = 0 ∨ M k 2 = 1 then 1 else 0) M) : wpX5_isHolder k M Q := by
  unfold wpX5_isHolder wjX5_isHolder_15 wjX5_isHolder_20
  refine ⟨fun q => ?_, fun q => ⟨fun q2 => ?_, fun q2 => ?_⟩⟩
  · rw [if_pos (Or.inl q)] at h; exact ⟨Or.inr rfl, h⟩
  · rw [if_neg (fun z => z.elim q q2)] at h; exact ⟨Or.inl rfl, h⟩
  · rw [if_pos (Or.inr q2)] at h; exact ⟨Or.inr rfl, h⟩
