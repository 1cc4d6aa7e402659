/-! THE ENGINE'S OBJECTS, numbered in the order in which the constructor makes them: 0 the engine, 1 Chart, 2 states, 3 transitions, 4 causedBy, 5 + 3 s State s and its two Actions, 65 + 2 t Transition t and its Action, 125 and 133 the two Plays (+1 Situation, +2 ages, +3 records, +4 variables, +5 fired, +6 queue, +7 taken), 141 Look, 142 row, 143 found, 144 origin, 145 byCall, 146 calls, 147 + 4 i Situation i (+1 ages, +2 records, +3 variables). All references are constant; what changes is ints: M k j is the int in slot (or place) j of object k. -/
abbrev pt_cl : List vw_C := [(RX0, TX0, 3), (RX1, TX1, 7), (RX2, TX2, 9), (RX3, TX3, 11), (RX4, TX4, 4), (RX5, TX5, 9), (RX6, TX6, 9), (RX7, TX7, 5), (RX8, TX8, 2), (RX9, TX9, 11), (RX10, TX10, 5), (RX11, TX11, 6), (RX12, TX12, 5), (RJx4a65c, TJx4a65c, 3)]
abbrev pt_M : Type := Nat → Nat → Int32
def pt_kd (k : Nat) : Nat := if k < 5 then (if k = 0 then 7 else if k = 1 then 1 else if k = 2 then 9 else if k = 3 then 10 else 8) else if k < 65 then (if (k - 5) % 3 = 0 then 5 else 0) else if k < 125 then (if (k - 65) % 2 = 0 then 6 else 0) else if k < 141 then (if (k - 125) % 8 = 0 then 3 else if (k - 125) % 8 = 1 then 4 else 8) else if k < 147 then (if k = 141 then 2 else if k = 143 then 11 else 8) else if k < 387 then (if (k - 147) % 4 = 0 then 4 else 8) else 12
def pt_len (k : Nat) : Nat := if k < 125 then 12 else if k < 141 then (if (k - 125) % 8 = 4 then 4 else if (k - 125) % 8 = 5 then 30 else if (k - 125) % 8 = 6 then 8 else if (k - 125) % 8 = 7 then 30 else 20) else if k < 147 then (if k = 142 then 8 else 60) else (if (k - 147) % 4 = 3 then 4 else 20)
def pt_cel (cA : Nat → ClassId) (ad : Nat → Nat) (k : Nat) (m : Nat → Int32) : va_E := match pt_kd k with
  | 0 => .inr (0, [.int (m 0), .int (m 1), .int (m 2)])
  | 1 => .inr (1, [.ref (ad 2), .ref (ad 3), .ref (ad 4), .int (m 3), .int (m 4), .int (m 5), .int (m 6)])
  | 2 => .inr (2, [.ref (ad 142), .int (m 1), .int (m 2), .ref (ad 133), .ref (ad 143), .ref (ad 144), .ref (ad 145), .ref (ad 146), .int (m 8)])
  | 3 => .inr (3, [.ref (ad 1), .ref (ad (k + 1)), .ref (ad (k + 5)), .int (m 3), .int (m 4), .int (m 5), .int (m 6), .ref (ad (k + 6)), .int (m 8), .ref (ad (k + 7)), .int (m 10)])
  | 4 => .inr (4, [.ref (ad (k + 1)), .ref (ad (k + 2)), .ref (ad (k + 3)), .int (m 3)])
  | 5 => .inr (5, [.ref (ad (k + 1)), .ref (ad (k + 2)), .int (m 2), .int (m 3), .int (m 4), .int (m 5), .int (m 6), .int (m 7), .int (m 8)])
  | 6 => .inr (6, [.ref (ad (k + 1)), .int (m 1), .int (m 2), .int (m 3), .int (m 4), .int (m 5), .int (m 6), .int (m 7), .int (m 8)])
  | 7 => .inr (7, [.ref (ad 1), .ref (ad 125), .ref (ad 133), .ref (ad 141), .int (m 4)])
  | 8 => .inl (cA 0, pt_len k, .inl m)
  | 9 => .inl (cA 1, 20, .inr (.inr (.inr (.inr (fun i => some (ad (5 + 3 * i)))))))
  | 10 => .inl (cA 2, 30, .inr (.inr (.inr (.inr (fun i => some (ad (65 + 2 * i)))))))
  | _ => .inl (cA 3, 60, .inr (.inr (.inr (.inr (fun i => some (ad (147 + 4 * i)))))))
def pt_W (cA : Nat → ClassId) (ad : Nat → Nat) (M : pt_M) : va_W := (List.range 387).map fun k => (ad k, pt_cel cA ad k (M k))
/-- one int is written -/
def pt_st (M : pt_M) (k j : Nat) (x : Int32) : pt_M := fun a => if a = k then (fun b => if b = j then x else M k b) else M a
/-- the first n ints of object i go to object k -/
def pt_cp (M : pt_M) (k i n : Nat) : pt_M := fun a => if a = k then va_cpy (M i) (M k) 0 0 n else M a
theorem pt_st_k {M : pt_M} {k j : Nat} {x : Int32} : pt_st M k j x k = fun b => if b = j then x else M k b := if_pos rfl
theorem pt_st_o {M : pt_M} {k j a : Nat} {x : Int32} (h : a ≠ k) : pt_st M k j x a = M a := if_neg h
theorem pt_cp_k {M : pt_M} {k i n : Nat} : pt_cp M k i n k = va_cpy (M i) (M k) 0 0 n := if_pos rfl
theorem pt_cp_o {M : pt_M} {k i n a : Nat} (h : a ≠ k) : pt_cp M k i n a = M a := if_neg h
def pt_T (cA : Nat → ClassId) : List (ClassId × FieldType) := [(cA 0, .int), (cA 1, .object RX5), (cA 2, .object RX6), (cA 3, .object RX4), (cA 4, .object "java/lang/Object"), (cA 5, .boolean), (cA 6, .long)]
theorem pt_lt {k : Nat} (h : pt_kd k ≠ 12) : k < 387 := by
  unfold pt_kd at h
  rcases Nat.lt_or_ge k 387 with q | q
  · exact q
  · exfalso
    apply h
    rw [if_neg (by omega), if_neg (by omega), if_neg (by omega), if_neg (by omega), if_neg (by omega), if_neg (by omega)]
theorem pt_l0 {k : Nat} (h : pt_kd k = 0) : k < 387 := pt_lt (by rw [h]; decide)
theorem pt_l1 {k : Nat} (h : pt_kd k = 1) : k < 387 := pt_lt (by rw [h]; decide)
theorem pt_l2 {k : Nat} (h : pt_kd k = 2) : k < 387 := pt_lt (by rw [h]; decide)
theorem pt_l3 {k : Nat} (h : pt_kd k = 3) : k < 387 := pt_lt (by rw [h]; decide)
theorem pt_l4 {k : Nat} (h : pt_kd k = 4) : k < 387 := pt_lt (by rw [h]; decide)
theorem pt_l5 {k : Nat} (h : pt_kd k = 5) : k < 387 := pt_lt (by rw [h]; decide)
theorem pt_l6 {k : Nat} (h : pt_kd k = 6) : k < 387 := pt_lt (by rw [h]; decide)
theorem pt_l7 {k : Nat} (h : pt_kd k = 7) : k < 387 := pt_lt (by rw [h]; decide)
theorem pt_l8 {k : Nat} (h : pt_kd k = 8) : k < 387 := pt_lt (by rw [h]; decide)
section PTC
variable {cA : Nat → ClassId} {ad : Nat → Nat} {k : Nat} (m : Nat → Int32)
theorem pt_c0 (h : pt_kd k = 0) : pt_cel cA ad k m = .inr (0, [.int (m 0), .int (m 1), .int (m 2)]) := by unfold pt_cel; rw [h]; rfl
theorem pt_c1 (h : pt_kd k = 1) : pt_cel cA ad k m = .inr (1, [.ref (ad 2), .ref (ad 3), .ref (ad 4), .int (m 3), .int (m 4), .int (m 5), .int (m 6)]) := by unfold pt_cel; rw [h]; rfl
theorem pt_c2 (h : pt_kd k = 2) : pt_cel cA ad k m = .inr (2, [.ref (ad 142), .int (m 1), .int (m 2), .ref (ad 133), .ref (ad 143), .ref (ad 144), .ref (ad 145), .ref (ad 146), .int (m 8)]) := by unfold pt_cel; rw [h]; rfl
theorem pt_c3 (h : pt_kd k = 3) : pt_cel cA ad k m = .inr (3, [.ref (ad 1), .ref (ad (k + 1)), .ref (ad (k + 5)), .int (m 3), .int (m 4), .int (m 5), .int (m 6), .ref (ad (k + 6)), .int (m 8), .ref (ad (k + 7)), .int (m 10)]) := by unfold pt_cel; rw [h]; rfl
theorem pt_c4 (h : pt_kd k = 4) : pt_cel cA ad k m = .inr (4, [.ref (ad (k + 1)), .ref (ad (k + 2)), .ref (ad (k + 3)), .int (m 3)]) := by unfold pt_cel; rw [h]; rfl
theorem pt_c5 (h : pt_kd k = 5) : pt_cel cA ad k m = .inr (5, [.ref (ad (k + 1)), .ref (ad (k + 2)), .int (m 2), .int (m 3), .int (m 4), .int (m 5), .int (m 6), .int (m 7), .int (m 8)]) := by unfold pt_cel; rw [h]; rfl
theorem pt_c6 (h : pt_kd k = 6) : pt_cel cA ad k m = .inr (6, [.ref (ad (k + 1)), .int (m 1), .int (m 2), .int (m 3), .int (m 4), .int (m 5), .int (m 6), .int (m 7), .int (m 8)]) := by unfold pt_cel; rw [h]; rfl
theorem pt_c7 (h : pt_kd k = 7) : pt_cel cA ad k m = .inr (7, [.ref (ad 1), .ref (ad 125), .ref (ad 133), .ref (ad 141), .int (m 4)]) := by unfold pt_cel; rw [h]; rfl
theorem pt_c8 {n : Nat} (h : pt_kd k = 8 ∧ pt_len k = n) : pt_cel cA ad k m = .inl (cA 0, n, .inl m) := by unfold pt_cel; rw [h.1, h.2]; rfl
end PTC
theorem pt_c9 {cA : Nat → ClassId} {ad : Nat → Nat} {m : Nat → Int32} : pt_cel cA ad 2 m = .inl (cA 1, 20, .inr (.inr (.inr (.inr (fun i => some (ad (5 + 3 * i))))))) := rfl
theorem pt_c10 {cA : Nat → ClassId} {ad : Nat → Nat} {m : Nat → Int32} : pt_cel cA ad 3 m = .inl (cA 2, 30, .inr (.inr (.inr (.inr (fun i => some (ad (65 + 2 * i))))))) := rfl
theorem pt_c11 {cA : Nat → ClassId} {ad : Nat → Nat} {m : Nat → Int32} : pt_cel cA ad 143 m = .inl (cA 3, 60, .inr (.inr (.inr (.inr (fun i => some (ad (147 + 4 * i))))))) := rfl
-- what an object's own objects are
set_option maxRecDepth 20000 in
theorem pt_q3' : ∀ k, k < 387 → pt_kd k = 3 → pt_kd (k + 1) = 4 ∧ (pt_kd (k + 5) = 8 ∧ pt_len (k + 5) = 30) ∧ (pt_kd (k + 6) = 8 ∧ pt_len (k + 6) = 8) ∧ (pt_kd (k + 7) = 8 ∧ pt_len (k + 7) = 30) := by decide +kernel
set_option maxRecDepth 20000 in
theorem pt_q4' : ∀ k, k < 387 → pt_kd k = 4 → (pt_kd (k + 1) = 8 ∧ pt_len (k + 1) = 20) ∧ (pt_kd (k + 2) = 8 ∧ pt_len (k + 2) = 20) ∧ (pt_kd (k + 3) = 8 ∧ pt_len (k + 3) = 4) := by decide +kernel
set_option maxRecDepth 20000 in
theorem pt_q5' : ∀ k, k < 387 → pt_kd k = 5 → pt_kd (k + 1) = 0 ∧ pt_kd (k + 2) = 0 := by decide +kernel
set_option maxRecDepth 20000 in
theorem pt_q6' : ∀ k, k < 387 → pt_kd k = 6 → pt_kd (k + 1) = 0 := by decide +kernel
theorem pt_3s {k : Nat} (h : pt_kd k = 3) : pt_kd (k + 1) = 4 := (pt_q3' k (pt_l3 h) h).1
theorem pt_3f {k : Nat} (h : pt_kd k = 3) : pt_kd (k + 5) = 8 ∧ pt_len (k + 5) = 30 := (pt_q3' k (pt_l3 h) h).2.1
theorem pt_3q {k : Nat} (h : pt_kd k = 3) : pt_kd (k + 6) = 8 ∧ pt_len (k + 6) = 8 := (pt_q3' k (pt_l3 h) h).2.2.1
theorem pt_3t {k : Nat} (h : pt_kd k = 3) : pt_kd (k + 7) = 8 ∧ pt_len (k + 7) = 30 := (pt_q3' k (pt_l3 h) h).2.2.2
theorem pt_4a {k : Nat} (h : pt_kd k = 4) : pt_kd (k + 1) = 8 ∧ pt_len (k + 1) = 20 := (pt_q4' k (pt_l4 h) h).1
theorem pt_4r {k : Nat} (h : pt_kd k = 4) : pt_kd (k + 2) = 8 ∧ pt_len (k + 2) = 20 := (pt_q4' k (pt_l4 h) h).2.1
theorem pt_4v {k : Nat} (h : pt_kd k = 4) : pt_kd (k + 3) = 8 ∧ pt_len (k + 3) = 4 := (pt_q4' k (pt_l4 h) h).2.2
theorem pt_5e {k : Nat} (h : pt_kd k = 5) : pt_kd (k + 1) = 0 := (pt_q5' k (pt_l5 h) h).1
theorem pt_5l {k : Nat} (h : pt_kd k = 5) : pt_kd (k + 2) = 0 := (pt_q5' k (pt_l5 h) h).2
theorem pt_6a {k : Nat} (h : pt_kd k = 6) : pt_kd (k + 1) = 0 := pt_q6' k (pt_l6 h) h
set_option maxRecDepth 20000 in
theorem pt_ks' : ∀ i, i < 20 → pt_kd (5 + 3 * i) = 5 := by decide +kernel
set_option maxRecDepth 20000 in
theorem pt_kt' : ∀ i, i < 30 → pt_kd (65 + 2 * i) = 6 := by decide +kernel
set_option maxRecDepth 20000 in
theorem pt_kq' : ∀ i, i < 60 → pt_kd (147 + 4 * i) = 4 := by decide +kernel
theorem pt_inlt {i : Int32} {n : Nat} (h : vp_in i n) : i.toNatClampNeg < n := Nat.not_le.mp fun q => h (Or.inr q)
/-- the object in a place of states, transitions, found -/
def pt_s (i : Int32) : Nat := 5 + 3 * i.toNatClampNeg
def pt_t (i : Int32) : Nat := 65 + 2 * i.toNatClampNeg
def pt_q (i : Int32) : Nat := 147 + 4 * i.toNatClampNeg
theorem pt_ks {i : Int32} (h : vp_in i 20) : pt_kd (pt_s i) = 5 := pt_ks' _ (pt_inlt h)
theorem pt_kt {i : Int32} (h : vp_in i 30) : pt_kd (pt_t i) = 6 := pt_kt' _ (pt_inlt h)
theorem pt_kq {i : Int32} (h : vp_in i 60) : pt_kd (pt_q i) = 4 := pt_kq' _ (pt_inlt h)
theorem pt_W_get {cA : Nat → ClassId} {ad : Nat → Nat} {M : pt_M} {k : Nat} (hk : k < 387) : (pt_W cA ad M)[k]? = some (ad k, pt_cel cA ad k (M k)) := by simp [pt_W, hk]
theorem pt_W_upd {cA : Nat → ClassId} {ad : Nat → Nat} {M M1 : pt_M} {k : Nat} {e : va_E} (hk : k < 387) (he : pt_cel cA ad k (M1 k) = e) (ho : ∀ a, a ≠ k → M1 a = M a) : (pt_W cA ad M).set k (ad k, e) = pt_W cA ad M1 := by
  apply List.ext_getElem?
  intro i
  rw [List.getElem?_set]
  rcases Nat.lt_or_ge i 387 with hi | hi
  · by_cases h : k = i
    · subst h
      rw [if_pos rfl, if_pos (by simp [pt_W, hk]), pt_W_get hi, he]
    · rw [if_neg h, pt_W_get hi, pt_W_get hi, ho i (fun q => h q.symm)]
  · have h1 : (pt_W cA ad M)[i]? = none := List.getElem?_eq_none (by simp [pt_W, hi])
    have h2 : (pt_W cA ad M1)[i]? = none := List.getElem?_eq_none (by simp [pt_W, hi])
    rw [if_neg (by omega), h1, h2]
theorem pt_k0 : pt_kd 0 = 7 := by decide
theorem pt_k1 : pt_kd 1 = 1 := by decide
theorem pt_k141 : pt_kd 141 = 2 := by decide
theorem pt_k125 : pt_kd 125 = 3 := by decide
theorem pt_k133 : pt_kd 133 = 3 := by decide
theorem pt_a4 : pt_kd 4 = 8 ∧ pt_len 4 = 12 := by decide
theorem pt_a142 : pt_kd 142 = 8 ∧ pt_len 142 = 8 := by decide
theorem pt_a144 : pt_kd 144 = 8 ∧ pt_len 144 = 60 := by decide
theorem pt_a145 : pt_kd 145 = 8 ∧ pt_len 145 = 60 := by decide
theorem pt_a146 : pt_kd 146 = 8 ∧ pt_len 146 = 60 := by decide
-- switches
theorem pt_ine {x : Int32} (v : Int) (h : ¬ x = Int32.ofInt v) (h1 : -2147483648 ≤ v) (h2 : v < 2147483648) : x.toInt ≠ v := by
  intro e
  apply h
  apply Int32.toInt_inj.mp
  rw [e, Int32.toInt_ofInt_of_le h1 h2]
theorem pt_out13 {x : Int32} (h1 : ¬ x = 1) (h2 : ¬ x = 2) (h3 : ¬ x = 3) : x.toInt < 1 ∨ 3 < x.toInt := by
  have a := pt_ine 1 h1 (by decide) (by decide)
  have b := pt_ine 2 h2 (by decide) (by decide)
  have c := pt_ine 3 h3 (by decide) (by decide)
  omega
theorem pt_out03 {x : Int32} (h0 : ¬ x = 0) (h1 : ¬ x = 1) (h2 : ¬ x = 2) (h3 : ¬ x = 3) : x.toInt < 0 ∨ 3 < x.toInt := by
  have z := pt_ine 0 h0 (by decide) (by decide)
  have a := pt_ine 1 h1 (by decide) (by decide)
  have b := pt_ine 2 h2 (by decide) (by decide)
  have c := pt_ine 3 h3 (by decide) (by decide)
  omega
theorem pt_look1_2 {x : Int32} {a b d : Int} (h1 : ¬ x = 1) (h2 : ¬ x = 2) : Op.lookupswitch.offset [(1, a), (2, b)] d x.toInt = d := by
  have e1 := pt_ine 1 h1 (by decide) (by decide)
  have e2 := pt_ine 2 h2 (by decide) (by decide)
  simp [Op.lookupswitch.offset, Ne.symm e1, Ne.symm e2]
-- the table's words last, whoever calls (those that the class's own methods need)
def pt_okw (w : Cond) : Bool := goodWord w || (match w with | .methodLinkNest .. => true | .fieldLinkNest .. => true | .arrayOver (.object _) => true | .castable .. => true | .declares _ => true | _ => false)
def lw_all : List Cond := lw_tbl.filter pt_okw
theorem pt_all {w : Cond} (h : w ∈ lw_tbl) (h2 : pt_okw w = true) : w ∈ lw_all := List.mem_filter.mpr ⟨h, h2⟩
theorem pt_all_tbl {w : Cond} (h : w ∈ lw_all) : w ∈ lw_tbl := (List.mem_filter.mp h).1
theorem pt_pay {args : Array Value} {s : State} (hts : ∀ w ∈ lw_all, w.before args s = true) : ∀ w ∈ lw_all, ∀ (a' : Array Value) (U : State), s.WarmedH U.vm → w.before a' U = true := by
  intro w hw a' U hW
  have h1 := (List.mem_filter.mp hw).2
  have h2 := hts w hw
  unfold pt_okw at h1
  rcases Bool.or_eq_true _ _ ▸ h1 with h1 | h1
  · exact word_at hW (good_of_word h1) h2
  · split at h1
    · exact va_Nw.use rfl (va_Nw.warmM hW (va_Nw.of rfl h2))
    · exact va_Nw.use rfl (va_Nw.warmF hW (va_Nw.of rfl h2))
    · exact va_AO.use (va_AO.moved hW.alike (va_AO.of h2))
    · exact va_Nw.use rfl (va_Nw.warmC hW (va_Nw.of rfl h2))
    · exact va_Nw.use rfl (va_Nw.warmD hW (va_Nw.of rfl h2))
    · cases h1
abbrev pt_F (p : Program) (m : MethodId) (c : Code) (cc : ByteArray) (nL : Nat) (s : State) (args : Array Value) (own : String) (D : va_G) (cA : Nat → ClassId) : Prop := CallFix p m c cc nL s args lw_all own ∧ va_K D pt_cl (pt_T cA) s
/-- a method's start, and its end: the engine's objects hold M -/
def pt_P (D : va_G) (cA : Nat → ClassId) (ad : Nat → Nat) (sz : Nat) (M : pt_M) : State → Prop := fun U => U.heap.size = sz ∧ va_P D pt_cl (pt_W cA ad M) U.heap ∧ va_K D pt_cl (pt_T cA) U
def pt_B (D : va_G) (cA : Nat → ClassId) (ad : Nat → Nat) : pt_M → State → Prop := fun M t => va_P D pt_cl (pt_W cA ad M) t.heap
def pt_fr (ad : Nat → Nat) (sz : Nat) : Nat → Prop := fun q => (∃ k, k < 387 ∧ q = ad k) ∨ sz ≤ q
def pt_I (ad : Nat → Nat) : Prop := ∀ i j, i < 387 → j < 387 → ad i = ad j → i = j
theorem pt_D {cA : Nat → ClassId} {ad : Nat → Nat} (hI : pt_I ad) {A : Nat → Prop} (hA : ∀ k, k < 387 → A (ad k)) (M : pt_M) : va_D A (pt_W cA ad M) := by
  have key : ∀ (k : Nat) (q : Nat × va_E), (pt_W cA ad M)[k]? = some q → k < 387 ∧ q.1 = ad k := by
    intro k q h
    have hk : k < 387 := by
      have := (List.getElem?_eq_some_iff.mp h).1
      simpa [pt_W] using this
    rw [pt_W_get hk] at h
    cases h
    exact ⟨hk, rfl⟩
  refine ⟨fun i j p q hi hj e => ?_, fun k q h => ?_⟩
  · obtain ⟨a1, a2⟩ := key i p hi
    obtain ⟨b1, b2⟩ := key j q hj
    exact hI i j a1 b1 (a2.symm.trans (e.trans b2))
  · obtain ⟨a1, a2⟩ := key k q h
    rw [a2]
    exact hA k a1
theorem pt_blind {D : va_G} {cA : Nat → ClassId} {ad : Nat → Nat} {sz : Nat} {M : pt_M} {As : List Value} : FrameBlind (va_Pc As (pt_P D cA ad sz M)) := fun a U g mk q => ⟨q.1, q.2.1, q.2.2.1, va_K.moved (u := U) (U := U.calling g mk a) (Vm.Alike.refl U.vm) q.2.2.2⟩
/-- a boolean -/
def pt_zb (x : Int32) : Prop := x = 0 ∨ x = 1
theorem pt_zb_n {x : Int32} (h : pt_zb x) : narrow .boolean (.int x) = .int x := by rcases h with rfl | rfl <;> rfl
theorem pt_zb_f {x : Int32} (h : pt_zb x) : fits .boolean (.int x) = true := by rcases h with rfl | rfl <;> rfl
section PTR
variable {p : Program} {l : Launch} {e : Env} {R : Room} {s : State} {m : MethodId} {args : Array Value} {below : List Frame} {meth : Method} {c : Code} {H : Heap} {locs : List Loc} {cells slots : Nat} {Q : State → Prop}
variable {cc : ByteArray} {pc nL : Nat} {ls : Array Slot} {rest st : List Value} {D : va_G} {A : Nat → Prop} {cA : Nat → ClassId} {ad : Nat → Nat} {M : pt_M} {H0 : Heap} {own : String} {k : Nat}
theorem pt_get (F : pt_F p m c cc nL s args own D cA) (hP : va_P D pt_cl (pt_W cA ad M) H) {ci : Nat} {fs : List Value} (hc : pt_cel cA ad k (M k) = .inr (ci, fs)) (hk : k < 387) {C ref : String} {T : u_T} {N index : Nat} (hin : ∀ w ∈ u_ws C T N, w ∈ lw_all) (hcl : pt_cl[ci]? = some (C, T, N)) (j : Nat) (hj : j < N) (hlink : Cond.fieldLink own index ref (T j).2.1 (T j).2.2.1 ∈ lw_all) (hsame : (T j).1 = ref) {v : Value} (hv : fs[j]? = some v) (hdg : decode cc pc = .ok (.getfield index, 3))
    (kk : W p l e R s m args below meth c H locs cells slots Q (F0 m (pc + 3) ls (v :: rest))) : W p l e R s m args below meth c H locs cells slots Q (F0 m pc ls (.ref (ad k) :: rest)) :=
  va_get (D := D) (ci := ci) F.1.1 F.1.2.1 F.1.2.2.2.2 hin F.1.2.2.2.1 F.2 hP k (by rw [pt_W_get hk, hc]) hcl j hj (F.1.2.2.2.2 _ hlink) (fun x h => by rw [← hsame]; exact h) hv hdg kk
theorem pt_put (F : pt_F p m c cc nL s args own D cA) (hP : va_P D pt_cl (pt_W cA ad M) H) (hD : ∀ M, va_D A (pt_W cA ad M)) (hS : va_S A H0 H locs) {ci : Nat} {fs : List Value} (hc : pt_cel cA ad k (M k) = .inr (ci, fs)) (hk : k < 387) {C ref : String} {T : u_T} {N index : Nat} (hin : ∀ w ∈ u_ws C T N, w ∈ lw_all) (ty0 : Nat → FieldType) (hty : ∀ k, k < N → parseFieldDescriptor (T k).2.2.1 = some (ty0 k)) (hnm : ∀ a, a < N → ∀ b, b < N → a ≠ b → (T a).2.1 ≠ (T b).2.1) (hcl : pt_cl[ci]? = some (C, T, N)) (j : Nat) (hj : j < N) (hlink : Cond.fieldLink own index ref (T j).2.1 (T j).2.2.1 ∈ lw_all) (hsame : (T j).1 = ref) (hfin : (T j).2.2.2 = false) {x : Int32} (hn : narrow (ty0 j) (.int x) = .int x) (hfit : fits (ty0 j) (.int x) = true) (hl : j < fs.length)
    (hc1 : pt_cel cA ad k (fun b => if b = j then x else M k b) = .inr (ci, fs.set j (.int x))) (hdg : decode cc pc = .ok (.putfield index, 3))
    (kk : ∀ (M1 : pt_M) (H1 : Heap) (locs1 : List Loc), M1 = pt_st M k j x → va_P D pt_cl (pt_W cA ad M1) H1 → va_S A H0 H1 locs1 → W p l e R s m args below meth c H1 locs1 cells slots Q (F0 m (pc + 3) ls rest)) : W p l e R s m args below meth c H locs cells slots Q (F0 m pc ls (.int x :: .ref (ad k) :: rest)) := by
  refine va_put (D := D) (ci := ci) (ty := ty0 j) F.1.1 F.1.2.1 F.1.2.2.2.2 hin ty0 hty hnm F.1.2.2.2.1 F.2 hP (hD M) hS k (fs := fs) (by rw [pt_W_get hk, hc]) hcl j hj (F.1.2.2.2.2 _ hlink) (fun x h => by rw [← hsame]; exact h) hfin (hty j hj) hn hfit hl hdg (fun H1 locs1 g1 _ g3 => ?_)
  rw [pt_W_upd (M1 := pt_st M k j x) hk (by rw [pt_st_k]; exact hc1) (fun a h => pt_st_o h)] at g1
  exact kk _ H1 locs1 rfl g1 g3
theorem pt_iald (F : pt_F p m c cc nL s args own D cA) (hP : va_P D pt_cl (pt_W cA ad M) H) {n : Nat} (h8 : pt_kd k = 8 ∧ pt_len k = n) {i : Int32} (hin : vp_in i n) (hdg : decode cc pc = .ok (.iaload, 1))
    (kk : W p l e R s m args below meth c H locs cells slots Q (F0 m (pc + 1) ls (.int (M k i.toNatClampNeg) :: rest))) : W p l e R s m args below meth c H locs cells slots Q (F0 m pc ls (.int i :: .ref (ad k) :: rest)) :=
  va_iald (D := D) F.1.1 F.1.2.1 F.2 hP k 0 (by rw [pt_W_get (pt_l8 h8.1), pt_c8 _ h8]) rfl hin hdg kk
theorem pt_iast (F : pt_F p m c cc nL s args own D cA) (hP : va_P D pt_cl (pt_W cA ad M) H) (hD : ∀ M, va_D A (pt_W cA ad M)) (hS : va_S A H0 H locs) {n : Nat} (h8 : pt_kd k = 8 ∧ pt_len k = n) {i x : Int32} (hin : vp_in i n) (hdg : decode cc pc = .ok (.iastore, 1))
    (kk : ∀ (M1 : pt_M) (H1 : Heap) (locs1 : List Loc), M1 = pt_st M k i.toNatClampNeg x → va_P D pt_cl (pt_W cA ad M1) H1 → va_S A H0 H1 locs1 → W p l e R s m args below meth c H1 locs1 cells slots Q (F0 m (pc + 1) ls rest)) : W p l e R s m args below meth c H locs cells slots Q (F0 m pc ls (.int x :: .int i :: .ref (ad k) :: rest)) := by
  refine va_iast (D := D) F.1.1 F.1.2.1 F.2 hP (hD M) hS k 0 (by rw [pt_W_get (pt_l8 h8.1), pt_c8 _ h8]) rfl hin hdg (fun H1 locs1 g1 _ g3 => ?_)
  rw [pt_W_upd (M1 := pt_st M k i.toNatClampNeg x) (pt_l8 h8.1) (by rw [pt_st_k]; exact pt_c8 _ h8) (fun a h => pt_st_o h)] at g1
  exact kk _ H1 locs1 rfl g1 g3
theorem pt_alen (F : pt_F p m c cc nL s args own D cA) (hP : va_P D pt_cl (pt_W cA ad M) H) {n : Nat} (h8 : pt_kd k = 8 ∧ pt_len k = n) {v : Int32} (hv : Int32.ofNat n = v) (hdg : decode cc pc = .ok (.arraylength, 1))
    (kk : W p l e R s m args below meth c H locs cells slots Q (F0 m (pc + 1) ls (.int v :: rest))) : W p l e R s m args below meth c H locs cells slots Q (F0 m pc ls (.ref (ad k) :: rest)) :=
  va_alen (D := D) F.1.1 F.1.2.1 F.2 hP k 0 (x := (n, .inl (M k))) (by rw [pt_W_get (pt_l8 h8.1), pt_c8 _ h8]) rfl hv hdg kk
theorem pt_alen11 (F : pt_F p m c cc nL s args own D cA) (hP : va_P D pt_cl (pt_W cA ad M) H) {v : Int32} (hv : Int32.ofNat 60 = v) (hdg : decode cc pc = .ok (.arraylength, 1))
    (kk : W p l e R s m args below meth c H locs cells slots Q (F0 m (pc + 1) ls (.int v :: rest))) : W p l e R s m args below meth c H locs cells slots Q (F0 m pc ls (.ref (ad 143) :: rest)) :=
  va_alen (D := D) F.1.1 F.1.2.1 F.2 hP 143 3 (x := (60, .inr (.inr (.inr (.inr (fun i => some (ad (147 + 4 * i)))))))) (by rw [pt_W_get (by decide), pt_c11]) rfl hv hdg kk
theorem pt_alds (F : pt_F p m c cc nL s args own D cA) (hP : va_P D pt_cl (pt_W cA ad M) H) {i : Int32} (hin : vp_in i 20) (hdg : decode cc pc = .ok (.aaload, 1))
    (kk : W p l e R s m args below meth c H locs cells slots Q (F0 m (pc + 1) ls (.ref (ad (pt_s i)) :: rest))) : W p l e R s m args below meth c H locs cells slots Q (F0 m pc ls (.int i :: .ref (ad 2) :: rest)) :=
  va_aldq (D := D) (f := fun i => some (ad (5 + 3 * i))) F.1.1 F.1.2.1 F.2 hP 2 1 (by rw [pt_W_get (by decide), pt_c9]) rfl hin hdg kk
theorem pt_aldt (F : pt_F p m c cc nL s args own D cA) (hP : va_P D pt_cl (pt_W cA ad M) H) {i : Int32} (hin : vp_in i 30) (hdg : decode cc pc = .ok (.aaload, 1))
    (kk : W p l e R s m args below meth c H locs cells slots Q (F0 m (pc + 1) ls (.ref (ad (pt_t i)) :: rest))) : W p l e R s m args below meth c H locs cells slots Q (F0 m pc ls (.int i :: .ref (ad 3) :: rest)) :=
  va_aldq (D := D) (f := fun i => some (ad (65 + 2 * i))) F.1.1 F.1.2.1 F.2 hP 3 2 (by rw [pt_W_get (by decide), pt_c10]) rfl hin hdg kk
theorem pt_aldq (F : pt_F p m c cc nL s args own D cA) (hP : va_P D pt_cl (pt_W cA ad M) H) {i : Int32} (hin : vp_in i 60) (hdg : decode cc pc = .ok (.aaload, 1))
    (kk : W p l e R s m args below meth c H locs cells slots Q (F0 m (pc + 1) ls (.ref (ad (pt_q i)) :: rest))) : W p l e R s m args below meth c H locs cells slots Q (F0 m pc ls (.int i :: .ref (ad 143) :: rest)) :=
  va_aldq (D := D) (f := fun i => some (ad (147 + 4 * i))) F.1.1 F.1.2.1 F.2 hP 143 3 (by rw [pt_W_get (by decide), pt_c11]) rfl hin hdg kk
theorem pt_cpy (F : pt_F p m c cc nL s args own D cA) (hP : va_P D pt_cl (pt_W cA ad M) H) (hD : ∀ M, va_D A (pt_W cA ad M)) (hS : va_S A H0 H locs) (hsz : ls.size = nL) {index i N : Nat} (h1 : Cond.methodLink own index arraycopyName ∈ lw_all) (h2 : Cond.native arraycopyName ∈ lw_all) (h3 : Cond.static arraycopyName ∈ lw_all) (h4 : Cond.initialized "java/lang/System" ∈ lw_all) (hi : pt_kd i = 8 ∧ pt_len i = N) (hk : pt_kd k = 8 ∧ pt_len k = N) {n : Int32} (hn : ¬ n < 0) (hN : n.toNatClampNeg = N)
    (hframes : 1 ≤ R.frames) (hlocals : (rest.map fun v => v.category).sum + (nativeFrameWords "java/lang/System" "arraycopy" 5 + 11) ≤ R.locals) (hdg : decode cc pc = .ok (.invokestatic index, 3))
    (kk : ∀ (M1 : pt_M) (H1 : Heap) (locs1 : List Loc), M1 = pt_cp M k i N → va_P D pt_cl (pt_W cA ad M1) H1 → va_S A H0 H1 locs1 → W p l e R s m args below meth c H1 locs1 cells slots Q (F0 m (pc + 3) ls rest)) : W p l e R s m args below meth c H locs cells slots Q (F0 m pc ls (.int n :: .int 0 :: .ref (ad k) :: .int 0 :: .ref (ad i) :: rest)) := by
  have hz : (0 : Int32).toNatClampNeg = 0 := by decide
  refine va_copyi (D := D) F.1.1 F.1.2.1 (F.1.2.2.1.trans hsz.symm) F.1.2.2.2.1 (F.1.2.2.2.2 _ h1) (F.1.2.2.2.2 _ h2) (F.1.2.2.2.2 _ h3) (F.1.2.2.2.2 _ h4) F.2 hP (hD M) hS i k 0 0 (ty := .int) (by rw [pt_W_get (pt_l8 hi.1), pt_c8 _ hi]) (by rw [pt_W_get (pt_l8 hk.1), pt_c8 _ hk]) rfl rfl rfl (by decide) (by decide) hn (by rw [hz, hN]; omega) (by rw [hz, hN]; omega) (fun _ _ => rfl) hframes hlocals hdg (fun H1 locs1 g1 _ g3 => ?_)
  rw [hz, hN, pt_W_upd (M1 := pt_cp M k i N) (pt_l8 hk.1) (by rw [pt_cp_k]; exact pt_c8 _ hk) (fun a h => pt_cp_o h)] at g1
  exact kk _ H1 locs1 rfl g1 g3
-- calls
theorem pt_B0 (F : pt_F p m c cc nL s args own D cA) {y : MethodName} {bytes : ByteArray} {maxL index n : Nat} {ret : Option FieldType} {rm : Room} (h1 : Cond.code y bytes maxL ret ∈ lw_all) (h2 : Cond.methodLink own index y ∈ lw_all) (h5 : Cond.initialized y.cls ∈ lw_all) (hd : y.cls ≠ "java/lang/invoke/MethodHandle" ∧ y.cls ≠ "java/lang/invoke/VarHandle" ∧ (parseMethodDescriptor y.desc).map (fun d => d.parameters.length) = some n) (hrm : rm.cells = 0 ∧ rm.slots = 0 ∧ rm.frames + 1 ≤ R.frames ∧ 8 + (maxL + 11) + rm.locals ≤ R.locals) :
    CallB R s args own index y bytes maxL ret (Cond.code y bytes maxL ret :: lw_all) rm 0 0 n := by
  have hts := F.1.2.2.2.2
  refine ⟨hrm.1, hrm.2.1, hrm.2.2.1, hrm.2.2.2, ?_, List.mem_cons_self, hts _ h1, hts _ h5, ⟨hd.1, hd.2.1⟩, fun sig h => ?_, hts _ h2⟩
  · intro w hw a' U hW
    rcases List.mem_cons.mp hw with rfl | hw
    · exact pt_pay hts _ h1 a' U hW
    · exact pt_pay hts _ hw a' U hW
  · have h6 := hd.2.2
    rw [h] at h6
    exact (Option.some.inj h6).symm
theorem pt_pre (F : pt_F p m c cc nL s args own D cA) (hP : va_P D pt_cl (pt_W cA ad M) H) {As : List Value} (U : State) (hU : U.heap = H) (hW : s.WarmedH U.vm) : va_Pc As (pt_P D cA ad H.size M) As.toArray U := ⟨rfl, by rw [hU], by rw [hU]; exact hP, va_K.moved hW.alike F.2⟩
theorem pt_runV (F : pt_F p m c cc nL s args own D cA) (hP : va_P D pt_cl (pt_W cA ad M) H) {ci : Nat} {fs As : List Value} (hc : pt_cel cA ad k (M k) = .inr (ci, fs)) (hk : k < 387) {C : String} {T : u_T} {N : Nat} (hcl : pt_cl[ci]? = some (C, T, N)) {y : MethodName} {bytes : ByteArray} {maxL index n : Nat} {ret : Option FieldType} {rm : Room} {Qc : Array Value → State → Outcome → State → Prop} {free : Addr → Prop}
    (hM : Met l y (Cond.code y bytes maxL ret :: lw_all) rm (va_Pc (.ref (ad k) :: As) (pt_P D cA ad H.size M)) Qc 0 0 free) (h1 : Cond.code y bytes maxL ret ∈ lw_all) (h2 : Cond.methodLink own index y ∈ lw_all) (h5 : Cond.initialized y.cls ∈ lw_all) (h3 : Cond.instanceMethod y ∈ lw_all) (h4 : Cond.selects C y y ∈ lw_all) (hd : y.cls ≠ "java/lang/invoke/MethodHandle" ∧ y.cls ≠ "java/lang/invoke/VarHandle" ∧ (parseMethodDescriptor y.desc).map (fun d => d.parameters.length) = some n) (hrm : rm.cells = 0 ∧ rm.slots = 0 ∧ rm.frames + 1 ≤ R.frames ∧ 8 + (maxL + 11) + rm.locals ≤ R.locals)
    (hn : As.length = n) (hsz : ls.size = nL) (hst : st = As.reverse ++ .ref (ad k) :: rest) (hW : (rest.map fun v => v.category).sum ≤ 8) (hdg : decode cc pc = .ok (.invokevirtual index, 3)) (hcs : cells + 0 ≤ R.cells ∧ slots + 0 ≤ R.slots) :
    va_Run p l e R s m args below meth c H locs cells slots 0 0 (F0 m pc ls st) rest (Qc (Value.ref (ad k) :: As).toArray) free :=
  va_runV (C := C) (b := ad k) (As := As) (rest := rest) F.1 hM ⟨pt_B0 F h1 h2 h5 hd hrm, F.1.2.2.2.2 _ h3, F.1.2.2.2.2 _ h4⟩ ⟨pt_blind, va_recv F.2 hP (ci := ci) (q0 := k) hcl (by rw [pt_W_get hk, hc]), pt_pre F hP⟩ rfl hn hsz hst (lv_room hW) hdg hcs
theorem pt_runS (F : pt_F p m c cc nL s args own D cA) (hP : va_P D pt_cl (pt_W cA ad M) H) {As : List Value} {y : MethodName} {bytes : ByteArray} {maxL index n : Nat} {ret : Option FieldType} {rm : Room} {Qc : Array Value → State → Outcome → State → Prop} {free : Addr → Prop}
    (hM : Met l y (Cond.code y bytes maxL ret :: lw_all) rm (va_Pc As (pt_P D cA ad H.size M)) Qc 0 0 free) (h1 : Cond.code y bytes maxL ret ∈ lw_all) (h2 : Cond.methodLink own index y ∈ lw_all) (h5 : Cond.initialized y.cls ∈ lw_all) (h3 : Cond.static y ∈ lw_all) (hd : y.cls ≠ "java/lang/invoke/MethodHandle" ∧ y.cls ≠ "java/lang/invoke/VarHandle" ∧ (parseMethodDescriptor y.desc).map (fun d => d.parameters.length) = some n) (hrm : rm.cells = 0 ∧ rm.slots = 0 ∧ rm.frames + 1 ≤ R.frames ∧ 8 + (maxL + 11) + rm.locals ≤ R.locals)
    (hn : As.length = n) (hsz : ls.size = nL) (hst : st = As.reverse ++ rest) (hW : (rest.map fun v => v.category).sum ≤ 8) (hdg : decode cc pc = .ok (.invokestatic index, 3)) (hcs : cells + 0 ≤ R.cells ∧ slots + 0 ≤ R.slots) :
    va_Run p l e R s m args below meth c H locs cells slots 0 0 (F0 m pc ls st) rest (Qc As.toArray) free :=
  va_runS (As := As) (rest := rest) F.1 hM ⟨pt_B0 F h1 h2 h5 hd hrm, F.1.2.2.2.2 _ h3⟩ ⟨pt_blind, pt_pre F hP⟩ rfl hn hsz hst (lv_room hW) hdg hcs
theorem pt_runSN (F : pt_F p m c cc nL s args own D cA) (hP : va_P D pt_cl (pt_W cA ad M) H) {As : List Value} {y : MethodName} {bytes : ByteArray} {maxL index n : Nat} {ret : Option FieldType} {rm : Room} {Qc : Array Value → State → Outcome → State → Prop} {free : Addr → Prop} {host : String}
    (hM : Met l y (Cond.code y bytes maxL ret :: lw_all) rm (va_Pc As (pt_P D cA ad H.size M)) Qc 0 0 free) (h1 : Cond.code y bytes maxL ret ∈ lw_all) (h2 : Cond.methodLinkNest own index y host ∈ lw_all) (h5 : Cond.initialized y.cls ∈ lw_all) (h3 : Cond.static y ∈ lw_all) (hd : y.cls ≠ "java/lang/invoke/MethodHandle" ∧ y.cls ≠ "java/lang/invoke/VarHandle" ∧ (parseMethodDescriptor y.desc).map (fun d => d.parameters.length) = some n) (hrm : rm.cells = 0 ∧ rm.slots = 0 ∧ rm.frames + 1 ≤ R.frames ∧ 8 + (maxL + 11) + rm.locals ≤ R.locals)
    (hn : As.length = n) (hsz : ls.size = nL) (hst : st = As.reverse ++ rest) (hW : (rest.map fun v => v.category).sum ≤ 8) (hdg : decode cc pc = .ok (.invokestatic index, 3)) (hcs : cells + 0 ≤ R.cells ∧ slots + 0 ≤ R.slots) :
    va_Run p l e R s m args below meth c H locs cells slots 0 0 (F0 m pc ls st) rest (Qc As.toArray) free := by
  have hts := F.1.2.2.2.2
  refine va_runSN (As := As) (rest := rest) F.1 hM ⟨⟨⟨hrm.1, hrm.2.1, hrm.2.2.1, hrm.2.2.2, ?_, List.mem_cons_self⟩, hts _ h1, hts _ h5, ⟨hd.1, hd.2.1⟩, fun sig h => ?_, hts _ h2⟩, hts _ h3, trivial⟩ ⟨pt_blind, pt_pre F hP⟩ rfl hn hsz hst (lv_room hW) hdg hcs
  · intro w hw a' U hW
    rcases List.mem_cons.mp hw with rfl | hw
    · exact pt_pay hts _ h1 a' U hW
    · exact pt_pay hts _ hw a' U hW
  · have h6 := hd.2.2
    rw [h] at h6
    exact (Option.some.inj h6).symm
theorem pt_frA (hS : va_S A H0 H locs) (hA : ∀ q, pt_fr ad H0.size q → A q) : (∀ q, q < H.size → pt_fr ad H.size q → A q) ∧ (∀ q, pt_fr ad H.size q → A q) := by
  have h2 : ∀ q, pt_fr ad H.size q → A q := by
    intro q h
    rcases h with h | h
    · exact hA q (Or.inl h)
    · exact hA q (Or.inr (Nat.le_trans hS.1 h))
  exact ⟨fun q _ h => h2 q h, h2⟩
variable {a : Array Value}
theorem pt_calli {Qi : Int32 → pt_M → Prop} (hr : va_Run p l e R s m args below meth c H locs cells slots 0 0 (F0 m pc ls st) rest (va_Qi Qi (pt_B D cA ad) (pt_fr ad H.size) a) (pt_fr ad H.size)) (hS : va_S A H0 H locs) (hA : ∀ q, pt_fr ad H0.size q → A q)
    (kk : ∀ (r : Int32) (M1 : pt_M) (H1 : Heap) (locs1 : List Loc), Qi r M1 → va_P D pt_cl (pt_W cA ad M1) H1 → va_S A H0 H1 locs1 → H.size ≤ H1.size → (∀ q : Nat, q < H.size → ¬ pt_fr ad H.size q → H1[q]? = H[q]?) → W p l e R s m args below meth c H1 locs1 cells slots Q (F0 m (pc + 3) ls (.int r :: rest))) : W p l e R s m args below meth c H locs cells slots Q (F0 m pc ls st) :=
  va_calli hr hS (pt_frA hS hA).1 (pt_frA hS hA).2 (fun r M1 t H1 locs1 ht _ hq hB hz ho hS1 => kk r M1 H1 locs1 hq (by rw [← ht]; exact hB) hS1 hz ho)
theorem pt_calll {Qi : Int64 → pt_M → Prop} (hr : va_Run p l e R s m args below meth c H locs cells slots 0 0 (F0 m pc ls st) rest (va_Ql Qi (pt_B D cA ad) (pt_fr ad H.size) a) (pt_fr ad H.size)) (hS : va_S A H0 H locs) (hA : ∀ q, pt_fr ad H0.size q → A q)
    (kk : ∀ (r : Int64) (M1 : pt_M) (H1 : Heap) (locs1 : List Loc), Qi r M1 → va_P D pt_cl (pt_W cA ad M1) H1 → va_S A H0 H1 locs1 → H.size ≤ H1.size → (∀ q : Nat, q < H.size → ¬ pt_fr ad H.size q → H1[q]? = H[q]?) → W p l e R s m args below meth c H1 locs1 cells slots Q (F0 m (pc + 3) ls (.long r :: rest))) : W p l e R s m args below meth c H locs cells slots Q (F0 m pc ls st) :=
  va_calll hr hS (pt_frA hS hA).1 (pt_frA hS hA).2 (fun r M1 t H1 locs1 ht _ hq hB hz ho hS1 => kk r M1 H1 locs1 hq (by rw [← ht]; exact hB) hS1 hz ho)
theorem pt_calld {Qi : UInt64 → pt_M → Prop} (hr : va_Run p l e R s m args below meth c H locs cells slots 0 0 (F0 m pc ls st) rest (va_Qd Qi (pt_B D cA ad) (pt_fr ad H.size) a) (pt_fr ad H.size)) (hS : va_S A H0 H locs) (hA : ∀ q, pt_fr ad H0.size q → A q)
    (kk : ∀ (r : UInt64) (M1 : pt_M) (H1 : Heap) (locs1 : List Loc), Qi r M1 → va_P D pt_cl (pt_W cA ad M1) H1 → va_S A H0 H1 locs1 → H.size ≤ H1.size → (∀ q : Nat, q < H.size → ¬ pt_fr ad H.size q → H1[q]? = H[q]?) → W p l e R s m args below meth c H1 locs1 cells slots Q (F0 m (pc + 3) ls (.double r :: rest))) : W p l e R s m args below meth c H locs cells slots Q (F0 m pc ls st) :=
  va_calld hr hS (pt_frA hS hA).1 (pt_frA hS hA).2 (fun r M1 t H1 locs1 ht _ hq hB hz ho hS1 => kk r M1 H1 locs1 hq (by rw [← ht]; exact hB) hS1 hz ho)
theorem pt_callv {Qi : pt_M → Prop} (hr : va_Run p l e R s m args below meth c H locs cells slots 0 0 (F0 m pc ls st) rest (va_Qv Qi (pt_B D cA ad) (pt_fr ad H.size) a) (pt_fr ad H.size)) (hS : va_S A H0 H locs) (hA : ∀ q, pt_fr ad H0.size q → A q)
    (kk : ∀ (M1 : pt_M) (H1 : Heap) (locs1 : List Loc), Qi M1 → va_P D pt_cl (pt_W cA ad M1) H1 → va_S A H0 H1 locs1 → H.size ≤ H1.size → (∀ q : Nat, q < H.size → ¬ pt_fr ad H.size q → H1[q]? = H[q]?) → W p l e R s m args below meth c H1 locs1 cells slots Q (F0 m (pc + 3) ls rest)) : W p l e R s m args below meth c H locs cells slots Q (F0 m pc ls st) :=
  va_callv hr hS (pt_frA hS hA).1 (pt_frA hS hA).2 (fun M1 t H1 locs1 ht _ hq hB hz ho hS1 => kk M1 H1 locs1 hq (by rw [← ht]; exact hB) hS1 hz ho)
end PTR
set_option maxRecDepth 100000 in
theorem inX0 : ∀ w ∈ u_ws RX0 TX0 3, w ∈ lw_all := by decide +kernel
set_option maxRecDepth 100000 in
theorem inX1 : ∀ w ∈ u_ws RX1 TX1 7, w ∈ lw_all := by decide +kernel
set_option maxRecDepth 100000 in
theorem inX2 : ∀ w ∈ u_ws RX2 TX2 9, w ∈ lw_all := by decide +kernel
set_option maxRecDepth 100000 in
theorem inX3 : ∀ w ∈ u_ws RX3 TX3 11, w ∈ lw_all := by decide +kernel
set_option maxRecDepth 100000 in
theorem inX4 : ∀ w ∈ u_ws RX4 TX4 4, w ∈ lw_all := by decide +kernel
set_option maxRecDepth 100000 in
theorem inX5 : ∀ w ∈ u_ws RX5 TX5 9, w ∈ lw_all := by decide +kernel
set_option maxRecDepth 100000 in
theorem inX6 : ∀ w ∈ u_ws RX6 TX6 9, w ∈ lw_all := by decide +kernel
set_option maxRecDepth 100000 in
theorem inX7 : ∀ w ∈ u_ws RX7 TX7 5, w ∈ lw_all := by decide +kernel
