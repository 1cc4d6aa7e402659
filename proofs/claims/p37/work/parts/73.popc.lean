/-! ===== how many bits ===== -/
def cntN (f : Nat → Bool) : Nat → Nat
  | 0 => 0
  | k + 1 => cntN f k + (if f k = true then 1 else 0)
theorem cntN_le {f : Nat → Bool} : ∀ {k}, cntN f k ≤ k
  | 0 => Nat.le_refl _
  | k + 1 => by
    rw [cntN]
    have := cntN_le (f := f) (k := k)
    split <;> omega
theorem cntN_congr {f g : Nat → Bool} : ∀ {k}, (∀ i, i < k → f i = g i) → cntN f k = cntN g k
  | 0, _ => rfl
  | k + 1, h => by rw [cntN, cntN, h k (Nat.lt_succ_self _), cntN_congr (fun i hi => h i (by omega))]
theorem cntN_pos {f : Nat → Bool} {i : Nat} (h : f i = true) : ∀ {k}, i < k → 0 < cntN f k
  | 0, hk => absurd hk (Nat.not_lt_zero _)
  | k + 1, hk => by
    rw [cntN]
    by_cases e : i = k
    · subst e; rw [if_pos h]; omega
    · have := cntN_pos h (k := k) (by omega)
      omega
def bcR : Nat → Nat → Bool
  | 0, _ => true
  | k + 1, v => decide (bcF (nI (v + k)) = nI (cntN (bt (nI (v + k))) 15)) && bcR k v
theorem bcR_at {v : Nat} : ∀ {k j : Nat}, bcR k v = true → j < k → bcF (nI (v + j)) = nI (cntN (bt (nI (v + j))) 15)
  | 0, _, _, h => absurd h (Nat.not_lt_zero _)
  | k + 1, j, hb, h => by
    rw [bcR, Bool.and_eq_true] at hb
    by_cases e : j = k
    · subst e; exact of_decide_eq_true hb.1
    · exact bcR_at hb.2 (by omega)
theorem bcR_0 : bcR 1024 0 = true := by decide +kernel
theorem bcR_1 : bcR 1024 1024 = true := by decide +kernel
theorem bcR_2 : bcR 1024 2048 = true := by decide +kernel
theorem bcR_3 : bcR 1024 3072 = true := by decide +kernel
theorem bcR_4 : bcR 1024 4096 = true := by decide +kernel
theorem bcR_5 : bcR 1024 5120 = true := by decide +kernel
theorem bcR_6 : bcR 1024 6144 = true := by decide +kernel
theorem bcR_7 : bcR 1024 7168 = true := by decide +kernel
theorem bcR_8 : bcR 1024 8192 = true := by decide +kernel
theorem bcR_9 : bcR 1024 9216 = true := by decide +kernel
theorem bcR_10 : bcR 1024 10240 = true := by decide +kernel
theorem bcR_11 : bcR 1024 11264 = true := by decide +kernel
theorem bcR_12 : bcR 1024 12288 = true := by decide +kernel
theorem bcR_13 : bcR 1024 13312 = true := by decide +kernel
theorem bcR_14 : bcR 1024 14336 = true := by decide +kernel
theorem bcR_15 : bcR 1024 15360 = true := by decide +kernel
theorem bcR_16 : bcR 1024 16384 = true := by decide +kernel
theorem bcR_17 : bcR 1024 17408 = true := by decide +kernel
theorem bcR_18 : bcR 1024 18432 = true := by decide +kernel
theorem bcR_19 : bcR 1024 19456 = true := by decide +kernel
theorem bcR_20 : bcR 1024 20480 = true := by decide +kernel
theorem bcR_21 : bcR 1024 21504 = true := by decide +kernel
theorem bcR_22 : bcR 1024 22528 = true := by decide +kernel
theorem bcR_23 : bcR 1024 23552 = true := by decide +kernel
theorem bcR_24 : bcR 1024 24576 = true := by decide +kernel
theorem bcR_25 : bcR 1024 25600 = true := by decide +kernel
theorem bcR_26 : bcR 1024 26624 = true := by decide +kernel
theorem bcR_27 : bcR 1024 27648 = true := by decide +kernel
theorem bcR_28 : bcR 1024 28672 = true := by decide +kernel
theorem bcR_29 : bcR 1024 29696 = true := by decide +kernel
theorem bcR_30 : bcR 1024 30720 = true := by decide +kernel
theorem bcR_31 : bcR 1024 31744 = true := by decide +kernel
theorem bcR_all : ∀ r, r < 32 → bcR 1024 (1024 * r) = true
  | 0, _ => bcR_0
  | 1, _ => bcR_1
  | 2, _ => bcR_2
  | 3, _ => bcR_3
  | 4, _ => bcR_4
  | 5, _ => bcR_5
  | 6, _ => bcR_6
  | 7, _ => bcR_7
  | 8, _ => bcR_8
  | 9, _ => bcR_9
  | 10, _ => bcR_10
  | 11, _ => bcR_11
  | 12, _ => bcR_12
  | 13, _ => bcR_13
  | 14, _ => bcR_14
  | 15, _ => bcR_15
  | 16, _ => bcR_16
  | 17, _ => bcR_17
  | 18, _ => bcR_18
  | 19, _ => bcR_19
  | 20, _ => bcR_20
  | 21, _ => bcR_21
  | 22, _ => bcR_22
  | 23, _ => bcR_23
  | 24, _ => bcR_24
  | 25, _ => bcR_25
  | 26, _ => bcR_26
  | 27, _ => bcR_27
  | 28, _ => bcR_28
  | 29, _ => bcR_29
  | 30, _ => bcR_30
  | 31, _ => bcR_31
  | r + 32, h => absurd h (by omega)
theorem bcF_nI {v : Nat} (h : v < 32768) : bcF (nI v) = nI (cntN (bt (nI v)) 15) := by
  have := bcR_at (bcR_all (v / 1024) (by omega)) (j := v % 1024) (by omega)
  rw [show 1024 * (v / 1024) + v % 1024 = v from by omega] at this
  exact this
theorem bc_cnt {x : Int32} (h : ∀ i, i < 32 → bt x i = true → i < 15) : bcF x = nI (cntN (bt x) 15) := by
  have hv : x.toBitVec.toNat < 2 ^ 15 := Nat.lt_pow_two_of_testBit _ fun i hi => by
    by_cases h32 : i < 32
    · cases e : Nat.testBit x.toBitVec.toNat i
      · rfl
      · exact absurd (h i h32 e) (by omega)
    · have := b_big (x := x) (i := i) (by omega)
      exact this
  have e : x = nI x.toBitVec.toNat := by
    apply Int32.toBitVec_inj.mp
    show _ = BitVec.ofNat 32 _
    apply BitVec.eq_of_toNat_eq
    rw [BitVec.toNat_ofNat, Nat.mod_eq_of_lt x.toBitVec.isLt]
  have := bcF_nI hv
  rw [← e] at this
  exact this
