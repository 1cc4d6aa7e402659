-- ===== X7_tick
def lbX7_tick_26 (p1 : Int32) (Q : Int32 → pt_M → Prop)  (R26 : Int32 → Int32 → pt_M → Prop) (x2 : Int32) (x3 : Int32) (M : pt_M) : Prop :=
  (p1 ≤ x3 → Q x2 M) ∧ (¬ p1 ≤ x3 → wpX3_proceed 125 10 M (fun (r_38 : Int32) (M_38 : pt_M) => ∀ x2_42 : Int32, x2_42 = (x2 + r_38) → ∀ x3_43 : Int32, x3_43 = x3 + 1 → R26 x2_42 x3_43 M_38))
def lpX7_tick_26 (p1 : Int32) (Q : Int32 → pt_M → Prop)  : Nat → Int32 → Int32 → pt_M → Prop
  | 0 => fun _ _ _ => False
  | n + 1 => fun x2 x3 M => lbX7_tick_26 p1 Q (lpX7_tick_26 p1 Q n) x2 x3 M
def wpX7_tick (p1 : Int32) (M : pt_M) (Q : Int32 → pt_M → Prop) : Prop :=
  wpX7_checkRunning M (fun (M_1 : pt_M) => wpX7_isWithin p1 1 50 M_1 (fun (r_8 : Int32) (M_8 : pt_M) => (¬ r_8 = 0 → ∃ n : Nat, lpX7_tick_26 p1 Q n 0 0 M_8) ∧ (r_8 = 0 → False)))
set_option maxHeartbeats 4000000 in
set_option maxRecDepth 100000 in
theorem mtX7_tick (l : Launch) (D : va_G) (cA : Nat → ClassId) (ad : Nat → Nat) (hI : pt_I ad) (sz : Nat) (p1 : Int32) (M : pt_M) (Q : Int32 → pt_M → Prop) (hw : wpX7_tick p1 M Q) : Met l yX7_tick (Cond.code yX7_tick cX7_tick 4 (some .int) :: lw_all) ({ frames := 6, cells := 0, slots := 0, locals := 141 } : Room) (va_Pc [.ref (ad 0), .int p1] (pt_P D cA ad sz M)) (va_Qi Q (pt_B D cA ad) (pt_fr ad sz)) 0 0 (pt_fr ad sz) := by
  refine Met.ofW (cc := cX7_tick) (maxL := 4) (ret := (some .int)) (by decide) rfl ?_
  intro p e s m args below meth c s₁ B hml hv
  obtain ⟨rfl, hsz, hP, hK⟩ := hv
  have hx := B.exec
  have hb := B.bytes
  have hr := B.returns
  have hts0 := atoms_spec (ws := (Cond.code yX7_tick cX7_tick 4 (some .int) :: lw_all)) B.pre
  have hown : s.vm.findClass RX7 = some m.cls := findClass_of_methodNamed B.named
  have hlocks := B.notSynchronized
  subst hsz
  have F : pt_F p m c cX7_tick 4 s _ RX7 D cA := ⟨⟨hx, hb, hml, hown, fun w h => hts0 w (List.mem_cons_of_mem _ h)⟩, hK⟩
  have hD : ∀ M, va_D (pt_fr ad s.heap.size) (pt_W cA ad M) := pt_D hI (fun k h => Or.inl ⟨k, h, rfl⟩)
  have hS : va_S (pt_fr ad s.heap.size) s.heap s.heap [] := va_S.rf
  have hl := lv_entry ([.ref (ad 0), .int p1]) (n := 4) (Nat.le_of_ble_eq_true rfl)
  rw [lg_entry_eq]
  generalize (lg_sl ([.ref (ad 0), .int p1]) ++ List.replicate (4 - (lg_sl ([.ref (ad 0), .int p1])).length) Slot.unset).toArray = ls at hl ⊢
  have hl : lv_has ls 4 [(0, .ref (ad 0)), (1, .int p1)] := hl
  have L26 : ∀ (n26 : Nat) (x2 : Int32) (x3 : Int32) (M : pt_M) (H : Heap) (locs : List Loc) (ls : Array Slot), lpX7_tick_26 p1 Q n26 x2 x3 M → va_P D pt_cl (pt_W cA ad M) H → va_S (pt_fr ad s.heap.size) s.heap H locs → lv_has ls 4 [(0, .ref (ad 0)), (1, .int p1), (2, .int x2), (3, .int x3)] → W p l e (headSpec (Cond.code yX7_tick cX7_tick 4 (some .int) :: lw_all) ({ frames := 6, cells := 0, slots := 0, locals := 141 } : Room)).room s m ([.ref (ad 0), .int p1] : List Value).toArray below meth c H locs 0 0 (MQ below (va_Qi Q (pt_B D cA ad) (pt_fr ad s.heap.size)) ([.ref (ad 0), .int p1] : List Value).toArray s 0 0 (pt_fr ad s.heap.size)) (F0 m 26 ls []) := by
    intro n26
    induction n26 with
    | zero => intro x2 x3 M H locs ls hw; exact hw.elim
    | succ n26 ih26 =>
      intro x2 x3 M H locs ls hw hP hS hl
      replace hw : lbX7_tick_26 p1 Q (lpX7_tick_26 p1 Q n26) x2 x3 M := hw
      unfold lbX7_tick_26 at hw
      refine lv_iload_n hx hb dX7_tick_26 rfl (lv_at hl 3 rfl) ?_
      refine lv_iload_n hx hb dX7_tick_27 rfl (lv_at hl 1 rfl) ?_
      refine lv_icmp_ge (tgt := 49) hx hb dX7_tick_28 (by decide) (fun hc28 => ?_) (fun hc28 => ?_)
      · replace hw := hw.1 hc28
        refine lv_iload_n hx hb dX7_tick_49 rfl (lv_at hl 2 rfl) ?_
        exact W.iret (v := x2) hx hb hr (fun t ht hW => ⟨⟨x2, M, rfl, hw, by unfold pt_B; rw [ht]; exact hP⟩, hS.F ht⟩) hS.2.2 dX7_tick_50
      · replace hw := hw.2 hc28
        refine lv_iload_n hx hb dX7_tick_31 rfl (lv_at hl 2 rfl) ?_
        refine lv_aload_n hx hb dX7_tick_32 rfl (lv_at hl 0 rfl) ?_
        refine pt_get F hP (pt_c7 _ pt_k0) (pt_l7 pt_k0) inX7 rfl 1 (by decide) kw_331 rfl rfl dX7_tick_33 ?_
        refine lv_bipush (v := 10) hx hb dX7_tick_36 (by decide) ?_
        refine pt_calli (pt_runV (n := 1) (As := [.int 10]) (rest := [.int x2]) F hP (pt_c3 _ pt_k125) (pt_l3 pt_k125) rfl (mtX3_proceed l D cA ad hI _ 125 pt_k125 10 M _ hw) kw_464 kw_461 kw_31 kw_462 kw_463 ⟨by decide, by decide, by decide +kernel⟩ ⟨rfl, rfl, Nat.le_of_ble_eq_true rfl, Nat.le_of_ble_eq_true rfl⟩ rfl hl.1 rfl (Nat.le_of_ble_eq_true rfl) dX7_tick_38 ⟨Nat.zero_le _, Nat.zero_le _⟩) hS (fun _ h => h) (fun r_38 M_38 H locs hw hP hS _ _ => ?_)
        refine lv_iadd hx hb dX7_tick_41 ?_
        refine lv_topi (fun x2_42 ex2_42 => ?_)
        replace hw := hw x2_42 ex2_42
        refine lv_istore_n (lv' := [(2, .int x2_42), (0, .ref (ad 0)), (1, .int p1), (3, .int x3)]) hx hb dX7_tick_42 rfl hl (by decide) rfl (fun ls hl => ?_)
        obtain ⟨x3_43, ex3_43⟩ : ∃ y : Int32, y = x3 + 1 := ⟨_, rfl⟩
        replace hw := hw x3_43 ex3_43
        refine lv_iinc (v := x3_43) (lv' := [(3, .int x3_43), (2, .int x2_42), (0, .ref (ad 0)), (1, .int p1)]) hx hb dX7_tick_43 hl (k := 3) rfl (by rw [ex3_43]; rfl) (by decide) rfl (fun ls hl => ?_)
        refine lv_goto (tgt := 26) hx hb dX7_tick_46 (by decide) ?_
        exact ih26 x2_42 x3_43 M_38 _ _ _ hw hP hS (lv_sub hl [2, 3, 1, 0] rfl)
  unfold wpX7_tick at hw
  refine lv_aload_n hx hb dX7_tick_0 rfl (lv_at hl 0 rfl) ?_
  refine pt_callv (pt_runV (n := 0) (As := []) (rest := []) F hP (pt_c7 _ pt_k0) (pt_l7 pt_k0) rfl (mtX7_checkRunning l D cA ad hI _ M _ hw) kw_559 kw_556 kw_26 kw_558 kw_17 ⟨by decide, by decide, by decide +kernel⟩ ⟨rfl, rfl, Nat.le_of_ble_eq_true rfl, Nat.le_of_ble_eq_true rfl⟩ rfl hl.1 rfl (Nat.le_of_ble_eq_true rfl) dX7_tick_1 ⟨Nat.zero_le _, Nat.zero_le _⟩) hS (fun _ h => h) (fun M_1 H locs hw hP hS _ _ => ?_)
  refine lv_iload_n hx hb dX7_tick_4 rfl (lv_at hl 1 rfl) ?_
  refine lv_iconst (v := 1) hx hb dX7_tick_5 (by decide) ?_
  refine lv_bipush (v := 50) hx hb dX7_tick_6 (by decide) ?_
  refine pt_calli (pt_runS (n := 3) (As := [.int p1, .int 1, .int 50]) (rest := []) F hP (mtX7_isWithin l D cA ad hI _ p1 1 50 M_1 _ hw) kw_565 kw_563 kw_26 kw_564 ⟨by decide, by decide, by decide +kernel⟩ ⟨rfl, rfl, Nat.le_of_ble_eq_true rfl, Nat.le_of_ble_eq_true rfl⟩ rfl hl.1 rfl (Nat.le_of_ble_eq_true rfl) dX7_tick_8 ⟨Nat.zero_le _, Nat.zero_le _⟩) hS (fun _ h => h) (fun r_8 M_8 H locs hw hP hS _ _ => ?_)
  refine lv_if_ne (tgt := 22) hx hb dX7_tick_11 (by decide) (fun hc11 => ?_) (fun hc11 => ?_)
  · replace hw := hw.1 hc11
    refine lv_iconst (v := 0) hx hb dX7_tick_22 (by decide) ?_
    refine lv_istore_n (lv' := [(2, .int 0), (0, .ref (ad 0)), (1, .int p1)]) hx hb dX7_tick_23 rfl hl (by decide) rfl (fun ls hl => ?_)
    refine lv_iconst (v := 0) hx hb dX7_tick_24 (by decide) ?_
    refine lv_istore_n (lv' := [(3, .int 0), (2, .int 0), (0, .ref (ad 0)), (1, .int p1)]) hx hb dX7_tick_25 rfl hl (by decide) rfl (fun ls hl => ?_)
    obtain ⟨n_, hw⟩ := hw
    exact L26 n_ 0 0 M_8 _ _ _ hw hP hS (lv_sub hl [2, 3, 1, 0] rfl)
  · replace hw := hw.2 hc11
    exact hw.elim
-- ===== X7_states
def wpX7_states  (M : pt_M) (Q : Int32 → pt_M → Prop) : Prop :=
  Q (M 1 3) M
set_option maxHeartbeats 4000000 in
set_option maxRecDepth 100000 in
theorem mtX7_states (l : Launch) (D : va_G) (cA : Nat → ClassId) (ad : Nat → Nat) (hI : pt_I ad) (sz : Nat) (M : pt_M) (Q : Int32 → pt_M → Prop) (hw : wpX7_states M Q) : Met l yX7_states (Cond.code yX7_states cX7_states 1 (some .int) :: lw_all) ({ frames := 0, cells := 0, slots := 0, locals := 0 } : Room) (va_Pc [.ref (ad 0)] (pt_P D cA ad sz M)) (va_Qi Q (pt_B D cA ad) (pt_fr ad sz)) 0 0 (pt_fr ad sz) := by
  refine Met.ofW (cc := cX7_states) (maxL := 1) (ret := (some .int)) (by decide) rfl ?_
  intro p e s m args below meth c s₁ B hml hv
  obtain ⟨rfl, hsz, hP, hK⟩ := hv
  have hx := B.exec
  have hb := B.bytes
  have hr := B.returns
  have hts0 := atoms_spec (ws := (Cond.code yX7_states cX7_states 1 (some .int) :: lw_all)) B.pre
  have hown : s.vm.findClass RX7 = some m.cls := findClass_of_methodNamed B.named
  have hlocks := B.notSynchronized
  subst hsz
  have F : pt_F p m c cX7_states 1 s _ RX7 D cA := ⟨⟨hx, hb, hml, hown, fun w h => hts0 w (List.mem_cons_of_mem _ h)⟩, hK⟩
  have hD : ∀ M, va_D (pt_fr ad s.heap.size) (pt_W cA ad M) := pt_D hI (fun k h => Or.inl ⟨k, h, rfl⟩)
  have hS : va_S (pt_fr ad s.heap.size) s.heap s.heap [] := va_S.rf
  have hl := lv_entry ([.ref (ad 0)]) (n := 1) (Nat.le_of_ble_eq_true rfl)
  rw [lg_entry_eq]
  generalize (lg_sl ([.ref (ad 0)]) ++ List.replicate (1 - (lg_sl ([.ref (ad 0)])).length) Slot.unset).toArray = ls at hl ⊢
  have hl : lv_has ls 1 [(0, .ref (ad 0))] := hl
  unfold wpX7_states at hw
  refine lv_aload_n hx hb dX7_states_0 rfl (lv_at hl 0 rfl) ?_
  refine pt_get F hP (pt_c7 _ pt_k0) (pt_l7 pt_k0) inX7 rfl 0 (by decide) kw_330 rfl rfl dX7_states_1 ?_
  refine pt_get F hP (pt_c1 _ pt_k1) (pt_l1 pt_k1) inX1 rfl 3 (by decide) kw_191 rfl rfl dX7_states_4 ?_
  exact W.iret (v := (M 1 3)) hx hb hr (fun t ht hW => ⟨⟨(M 1 3), M, rfl, hw, by unfold pt_B; rw [ht]; exact hP⟩, hS.F ht⟩) hS.2.2 dX7_states_7
-- ===== X7_transitions
def wpX7_transitions  (M : pt_M) (Q : Int32 → pt_M → Prop) : Prop :=
  Q (M 1 4) M
set_option maxHeartbeats 4000000 in
set_option maxRecDepth 100000 in
theorem mtX7_transitions (l : Launch) (D : va_G) (cA : Nat → ClassId) (ad : Nat → Nat) (hI : pt_I ad) (sz : Nat) (M : pt_M) (Q : Int32 → pt_M → Prop) (hw : wpX7_transitions M Q) : Met l yX7_transitions (Cond.code yX7_transitions cX7_transitions 1 (some .int) :: lw_all) ({ frames := 0, cells := 0, slots := 0, locals := 0 } : Room) (va_Pc [.ref (ad 0)] (pt_P D cA ad sz M)) (va_Qi Q (pt_B D cA ad) (pt_fr ad sz)) 0 0 (pt_fr ad sz) := by
  refine Met.ofW (cc := cX7_transitions) (maxL := 1) (ret := (some .int)) (by decide) rfl ?_
  intro p e s m args below meth c s₁ B hml hv
  obtain ⟨rfl, hsz, hP, hK⟩ := hv
  have hx := B.exec
  have hb := B.bytes
  have hr := B.returns
  have hts0 := atoms_spec (ws := (Cond.code yX7_transitions cX7_transitions 1 (some .int) :: lw_all)) B.pre
  have hown : s.vm.findClass RX7 = some m.cls := findClass_of_methodNamed B.named
  have hlocks := B.notSynchronized
  subst hsz
  have F : pt_F p m c cX7_transitions 1 s _ RX7 D cA := ⟨⟨hx, hb, hml, hown, fun w h => hts0 w (List.mem_cons_of_mem _ h)⟩, hK⟩
  have hD : ∀ M, va_D (pt_fr ad s.heap.size) (pt_W cA ad M) := pt_D hI (fun k h => Or.inl ⟨k, h, rfl⟩)
  have hS : va_S (pt_fr ad s.heap.size) s.heap s.heap [] := va_S.rf
  have hl := lv_entry ([.ref (ad 0)]) (n := 1) (Nat.le_of_ble_eq_true rfl)
  rw [lg_entry_eq]
  generalize (lg_sl ([.ref (ad 0)]) ++ List.replicate (1 - (lg_sl ([.ref (ad 0)])).length) Slot.unset).toArray = ls at hl ⊢
  have hl : lv_has ls 1 [(0, .ref (ad 0))] := hl
  unfold wpX7_transitions at hw
  refine lv_aload_n hx hb dX7_transitions_0 rfl (lv_at hl 0 rfl) ?_
  refine pt_get F hP (pt_c7 _ pt_k0) (pt_l7 pt_k0) inX7 rfl 0 (by decide) kw_330 rfl rfl dX7_transitions_1 ?_
  refine pt_get F hP (pt_c1 _ pt_k1) (pt_l1 pt_k1) inX1 rfl 4 (by decide) kw_194 rfl rfl dX7_transitions_4 ?_
  exact W.iret (v := (M 1 4)) hx hb hr (fun t ht hW => ⟨⟨(M 1 4), M, rfl, hw, by unfold pt_B; rw [ht]; exact hP⟩, hS.F ht⟩) hS.2.2 dX7_transitions_7
-- ===== X7_ofState
def wpX7_ofState (p1 : Int32) (p2 : Int32) (M : pt_M) (Q : Int32 → pt_M → Prop) : Prop :=
  wpX7_checkState p1 M (fun (M_2 : pt_M) => vp_in p1 20 ∧ ((p2 = 0 → Q (M_2 (pt_s p1) 2) M_2) ∧ (¬ p2 = 0 → (p2 = 1 → Q (M_2 (pt_s p1) 3) M_2) ∧ (¬ p2 = 1 → (p2 = 2 → Q (M_2 (pt_s p1) 4) M_2) ∧ (¬ p2 = 2 → (p2 = 3 → wpJ6_bitCount_0f7a4 (M_2 (pt_s p1) 5) M_2 (fun (r_67 : Int32) (M_67 : pt_M) => Q r_67 M_67)) ∧ (¬ p2 = 3 → False))))))
set_option maxHeartbeats 4000000 in
set_option maxRecDepth 100000 in
theorem mtX7_ofState (l : Launch) (D : va_G) (cA : Nat → ClassId) (ad : Nat → Nat) (hI : pt_I ad) (sz : Nat) (p1 : Int32) (p2 : Int32) (M : pt_M) (Q : Int32 → pt_M → Prop) (hw : wpX7_ofState p1 p2 M Q) : Met l yX7_ofState (Cond.code yX7_ofState cX7_ofState 4 (some .int) :: lw_all) ({ frames := 2, cells := 0, slots := 0, locals := 43 } : Room) (va_Pc [.ref (ad 0), .int p1, .int p2] (pt_P D cA ad sz M)) (va_Qi Q (pt_B D cA ad) (pt_fr ad sz)) 0 0 (pt_fr ad sz) := by
  refine Met.ofW (cc := cX7_ofState) (maxL := 4) (ret := (some .int)) (by decide) rfl ?_
  intro p e s m args below meth c s₁ B hml hv
  obtain ⟨rfl, hsz, hP, hK⟩ := hv
  have hx := B.exec
  have hb := B.bytes
  have hr := B.returns
  have hts0 := atoms_spec (ws := (Cond.code yX7_ofState cX7_ofState 4 (some .int) :: lw_all)) B.pre
  have hown : s.vm.findClass RX7 = some m.cls := findClass_of_methodNamed B.named
  have hlocks := B.notSynchronized
  subst hsz
  have F : pt_F p m c cX7_ofState 4 s _ RX7 D cA := ⟨⟨hx, hb, hml, hown, fun w h => hts0 w (List.mem_cons_of_mem _ h)⟩, hK⟩
  have hD : ∀ M, va_D (pt_fr ad s.heap.size) (pt_W cA ad M) := pt_D hI (fun k h => Or.inl ⟨k, h, rfl⟩)
  have hS : va_S (pt_fr ad s.heap.size) s.heap s.heap [] := va_S.rf
  have hl := lv_entry ([.ref (ad 0), .int p1, .int p2]) (n := 4) (Nat.le_of_ble_eq_true rfl)
  rw [lg_entry_eq]
  generalize (lg_sl ([.ref (ad 0), .int p1, .int p2]) ++ List.replicate (4 - (lg_sl ([.ref (ad 0), .int p1, .int p2])).length) Slot.unset).toArray = ls at hl ⊢
  have hl : lv_has ls 4 [(0, .ref (ad 0)), (1, .int p1), (2, .int p2)] := hl
  unfold wpX7_ofState at hw
  refine lv_aload_n hx hb dX7_ofState_0 rfl (lv_at hl 0 rfl) ?_
  refine lv_iload_n hx hb dX7_ofState_1 rfl (lv_at hl 1 rfl) ?_
  refine pt_callv (pt_runV (n := 1) (As := [.int p1]) (rest := []) F hP (pt_c7 _ pt_k0) (pt_l7 pt_k0) rfl (mtX7_checkState l D cA ad hI _ p1 M _ hw) kw_605 kw_602 kw_26 kw_604 kw_18 ⟨by decide, by decide, by decide +kernel⟩ ⟨rfl, rfl, Nat.le_of_ble_eq_true rfl, Nat.le_of_ble_eq_true rfl⟩ rfl hl.1 rfl (Nat.le_of_ble_eq_true rfl) dX7_ofState_2 ⟨Nat.zero_le _, Nat.zero_le _⟩) hS (fun _ h => h) (fun M_2 H locs hw hP hS _ _ => ?_)
  refine lv_aload_n hx hb dX7_ofState_5 rfl (lv_at hl 0 rfl) ?_
  refine pt_get F hP (pt_c7 _ pt_k0) (pt_l7 pt_k0) inX7 rfl 0 (by decide) kw_330 rfl rfl dX7_ofState_6 ?_
  refine pt_get F hP (pt_c1 _ pt_k1) (pt_l1 pt_k1) inX1 rfl 0 (by decide) kw_183 rfl rfl dX7_ofState_9 ?_
  refine lv_iload_n hx hb dX7_ofState_12 rfl (lv_at hl 1 rfl) ?_
  have hv13 := hw.1
  replace hw := hw.2
  refine pt_alds F hP hv13 dX7_ofState_13 ?_
  refine lv_astore_n (lv' := [(3, .ref (ad (pt_s p1))), (0, .ref (ad 0)), (1, .int p1), (2, .int p2)]) hx hb dX7_ofState_14 rfl hl (by decide) rfl (fun ls hl => ?_)
  refine lv_iload_n hx hb dX7_ofState_15 rfl (lv_at hl 3 rfl) ?_
  by_cases hn16_0 : p2 = 0
  · replace hw := hw.1 hn16_0
    refine lv_tableIn (off := 32) (tgt := 48) hx hb dX7_ofState_16 (by rw [hn16_0]; decide) (by rw [hn16_0]; decide) (by rw [hn16_0]; rfl) (by decide) ?_
    refine lv_aload_n hx hb dX7_ofState_48 rfl (lv_at hl 0 rfl) ?_
    refine pt_get F hP (pt_c5 _ (pt_ks hv13)) (pt_l5 (pt_ks hv13)) inX5 rfl 2 (by decide) kw_97 rfl rfl dX7_ofState_49 ?_
    exact W.iret (v := (M_2 (pt_s p1) 2)) hx hb hr (fun t ht hW => ⟨⟨(M_2 (pt_s p1) 2), M_2, rfl, hw, by unfold pt_B; rw [ht]; exact hP⟩, hS.F ht⟩) hS.2.2 dX7_ofState_52
  · replace hw := hw.2 hn16_0
    by_cases hn16_1 : p2 = 1
    · replace hw := hw.1 hn16_1
      refine lv_tableIn (off := 37) (tgt := 53) hx hb dX7_ofState_16 (by rw [hn16_1]; decide) (by rw [hn16_1]; decide) (by rw [hn16_1]; rfl) (by decide) ?_
      refine lv_aload_n hx hb dX7_ofState_53 rfl (lv_at hl 0 rfl) ?_
      refine pt_get F hP (pt_c5 _ (pt_ks hv13)) (pt_l5 (pt_ks hv13)) inX5 rfl 3 (by decide) kw_101 rfl rfl dX7_ofState_54 ?_
      exact W.iret (v := (M_2 (pt_s p1) 3)) hx hb hr (fun t ht hW => ⟨⟨(M_2 (pt_s p1) 3), M_2, rfl, hw, by unfold pt_B; rw [ht]; exact hP⟩, hS.F ht⟩) hS.2.2 dX7_ofState_57
    · replace hw := hw.2 hn16_1
      by_cases hn16_2 : p2 = 2
      · replace hw := hw.1 hn16_2
        refine lv_tableIn (off := 42) (tgt := 58) hx hb dX7_ofState_16 (by rw [hn16_2]; decide) (by rw [hn16_2]; decide) (by rw [hn16_2]; rfl) (by decide) ?_
        refine lv_aload_n hx hb dX7_ofState_58 rfl (lv_at hl 0 rfl) ?_
        refine pt_get F hP (pt_c5 _ (pt_ks hv13)) (pt_l5 (pt_ks hv13)) inX5 rfl 4 (by decide) kw_104 rfl rfl dX7_ofState_59 ?_
        exact W.iret (v := (M_2 (pt_s p1) 4)) hx hb hr (fun t ht hW => ⟨⟨(M_2 (pt_s p1) 4), M_2, rfl, hw, by unfold pt_B; rw [ht]; exact hP⟩, hS.F ht⟩) hS.2.2 dX7_ofState_62
      · replace hw := hw.2 hn16_2
        by_cases hn16_3 : p2 = 3
        · replace hw := hw.1 hn16_3
          refine lv_tableIn (off := 47) (tgt := 63) hx hb dX7_ofState_16 (by rw [hn16_3]; decide) (by rw [hn16_3]; decide) (by rw [hn16_3]; rfl) (by decide) ?_
          refine lv_aload_n hx hb dX7_ofState_63 rfl (lv_at hl 0 rfl) ?_
          refine pt_get F hP (pt_c5 _ (pt_ks hv13)) (pt_l5 (pt_ks hv13)) inX5 rfl 5 (by decide) kw_108 rfl rfl dX7_ofState_64 ?_
          refine pt_calli (pt_runS (n := 1) (As := [.int (M_2 (pt_s p1) 5)]) (rest := []) F hP (mtJ6_bitCount_0f7a4 l D cA ad hI _ (M_2 (pt_s p1) 5) M_2 _ hw) kw_510 kw_733 kw_41 kw_509 ⟨by decide, by decide, by decide +kernel⟩ ⟨rfl, rfl, Nat.le_of_ble_eq_true rfl, Nat.le_of_ble_eq_true rfl⟩ rfl hl.1 rfl (Nat.le_of_ble_eq_true rfl) dX7_ofState_67 ⟨Nat.zero_le _, Nat.zero_le _⟩) hS (fun _ h => h) (fun r_67 M_67 H locs hw hP hS _ _ => ?_)
          exact W.iret (v := r_67) hx hb hr (fun t ht hW => ⟨⟨r_67, M_67, rfl, hw, by unfold pt_B; rw [ht]; exact hP⟩, hS.F ht⟩) hS.2.2 dX7_ofState_70
        · replace hw := hw.2 hn16_3
          refine lv_tableOut (tgt := 71) hx hb dX7_ofState_16 (pt_out03 hn16_0 hn16_1 hn16_2 hn16_3) (by decide) ?_
          exact hw.elim
-- ===== X7_isRunning
def wpX7_isRunning  (M : pt_M) (Q : Int32 → pt_M → Prop) : Prop :=
  pt_zb (M 0 4) ∧ Q (M 0 4) M
set_option maxHeartbeats 4000000 in
set_option maxRecDepth 100000 in
theorem mtX7_isRunning (l : Launch) (D : va_G) (cA : Nat → ClassId) (ad : Nat → Nat) (hI : pt_I ad) (sz : Nat) (M : pt_M) (Q : Int32 → pt_M → Prop) (hw : wpX7_isRunning M Q) : Met l yX7_isRunning (Cond.code yX7_isRunning cX7_isRunning 1 (some .boolean) :: lw_all) ({ frames := 0, cells := 0, slots := 0, locals := 0 } : Room) (va_Pc [.ref (ad 0)] (pt_P D cA ad sz M)) (va_Qi Q (pt_B D cA ad) (pt_fr ad sz)) 0 0 (pt_fr ad sz) := by
  refine Met.ofW (cc := cX7_isRunning) (maxL := 1) (ret := (some .boolean)) (by decide) rfl ?_
  intro p e s m args below meth c s₁ B hml hv
  obtain ⟨rfl, hsz, hP, hK⟩ := hv
  have hx := B.exec
  have hb := B.bytes
  have hr := B.returns
  have hts0 := atoms_spec (ws := (Cond.code yX7_isRunning cX7_isRunning 1 (some .boolean) :: lw_all)) B.pre
  have hown : s.vm.findClass RX7 = some m.cls := findClass_of_methodNamed B.named
  have hlocks := B.notSynchronized
  subst hsz
  have F : pt_F p m c cX7_isRunning 1 s _ RX7 D cA := ⟨⟨hx, hb, hml, hown, fun w h => hts0 w (List.mem_cons_of_mem _ h)⟩, hK⟩
  have hD : ∀ M, va_D (pt_fr ad s.heap.size) (pt_W cA ad M) := pt_D hI (fun k h => Or.inl ⟨k, h, rfl⟩)
  have hS : va_S (pt_fr ad s.heap.size) s.heap s.heap [] := va_S.rf
  have hl := lv_entry ([.ref (ad 0)]) (n := 1) (Nat.le_of_ble_eq_true rfl)
  rw [lg_entry_eq]
  generalize (lg_sl ([.ref (ad 0)]) ++ List.replicate (1 - (lg_sl ([.ref (ad 0)])).length) Slot.unset).toArray = ls at hl ⊢
  have hl : lv_has ls 1 [(0, .ref (ad 0))] := hl
  unfold wpX7_isRunning at hw
  refine lv_aload_n hx hb dX7_isRunning_0 rfl (lv_at hl 0 rfl) ?_
  refine pt_get F hP (pt_c7 _ pt_k0) (pt_l7 pt_k0) inX7 rfl 4 (by decide) kw_334 rfl rfl dX7_isRunning_1 ?_
  exact W.zret (v := (M 0 4)) (ty := .boolean) hx hb hr (pt_zb_n hw.1) (fun t ht hW => ⟨⟨(M 0 4), M, rfl, hw.2, by unfold pt_B; rw [ht]; exact hP⟩, hS.F ht⟩) hS.2.2 dX7_isRunning_4
-- ===== X7_active
def wpX7_active  (M : pt_M) (Q : Int32 → pt_M → Prop) : Prop :=
  Q (M (125 + 1) 3) M
set_option maxHeartbeats 4000000 in
set_option maxRecDepth 100000 in
theorem mtX7_active (l : Launch) (D : va_G) (cA : Nat → ClassId) (ad : Nat → Nat) (hI : pt_I ad) (sz : Nat) (M : pt_M) (Q : Int32 → pt_M → Prop) (hw : wpX7_active M Q) : Met l yX7_active (Cond.code yX7_active cX7_active 1 (some .int) :: lw_all) ({ frames := 0, cells := 0, slots := 0, locals := 0 } : Room) (va_Pc [.ref (ad 0)] (pt_P D cA ad sz M)) (va_Qi Q (pt_B D cA ad) (pt_fr ad sz)) 0 0 (pt_fr ad sz) := by
  refine Met.ofW (cc := cX7_active) (maxL := 1) (ret := (some .int)) (by decide) rfl ?_
  intro p e s m args below meth c s₁ B hml hv
  obtain ⟨rfl, hsz, hP, hK⟩ := hv
  have hx := B.exec
  have hb := B.bytes
  have hr := B.returns
  have hts0 := atoms_spec (ws := (Cond.code yX7_active cX7_active 1 (some .int) :: lw_all)) B.pre
  have hown : s.vm.findClass RX7 = some m.cls := findClass_of_methodNamed B.named
  have hlocks := B.notSynchronized
  subst hsz
  have F : pt_F p m c cX7_active 1 s _ RX7 D cA := ⟨⟨hx, hb, hml, hown, fun w h => hts0 w (List.mem_cons_of_mem _ h)⟩, hK⟩
  have hD : ∀ M, va_D (pt_fr ad s.heap.size) (pt_W cA ad M) := pt_D hI (fun k h => Or.inl ⟨k, h, rfl⟩)
  have hS : va_S (pt_fr ad s.heap.size) s.heap s.heap [] := va_S.rf
  have hl := lv_entry ([.ref (ad 0)]) (n := 1) (Nat.le_of_ble_eq_true rfl)
  rw [lg_entry_eq]
  generalize (lg_sl ([.ref (ad 0)]) ++ List.replicate (1 - (lg_sl ([.ref (ad 0)])).length) Slot.unset).toArray = ls at hl ⊢
  have hl : lv_has ls 1 [(0, .ref (ad 0))] := hl
  unfold wpX7_active at hw
  refine lv_aload_n hx hb dX7_active_0 rfl (lv_at hl 0 rfl) ?_
  refine pt_get F hP (pt_c7 _ pt_k0) (pt_l7 pt_k0) inX7 rfl 1 (by decide) kw_331 rfl rfl dX7_active_1 ?_
  refine pt_get F hP (pt_c3 _ pt_k125) (pt_l3 pt_k125) inX3 rfl 1 (by decide) kw_252 rfl rfl dX7_active_4 ?_
  refine pt_get F hP (pt_c4 _ (pt_3s pt_k125)) (pt_l4 (pt_3s pt_k125)) inX4 rfl 3 (by decide) kw_239 rfl rfl dX7_active_7 ?_
  exact W.iret (v := (M (125 + 1) 3)) hx hb hr (fun t ht hW => ⟨⟨(M (125 + 1) 3), M, rfl, hw, by unfold pt_B; rw [ht]; exact hP⟩, hS.F ht⟩) hS.2.2 dX7_active_10
-- ===== X7_isOver
def wjX7_isOver_22  (Q : Int32 → pt_M → Prop)  (xs0 : Int32) (M : pt_M) : Prop :=
  pt_zb xs0 ∧ Q xs0 M
def wjX7_isOver_21  (Q : Int32 → pt_M → Prop)   (M : pt_M) : Prop :=
  wjX7_isOver_22 Q 0 M
def wpX7_isOver  (M : pt_M) (Q : Int32 → pt_M → Prop) : Prop :=
  ((M 0 4) = 0 → wjX7_isOver_21 Q M) ∧ (¬ (M 0 4) = 0 → wpX3_isAtEnd 125 M (fun (r_11 : Int32) (M_11 : pt_M) => (r_11 = 0 → wjX7_isOver_21 Q M_11) ∧ (¬ r_11 = 0 → wjX7_isOver_22 Q 1 M_11)))
set_option maxHeartbeats 4000000 in
set_option maxRecDepth 100000 in
theorem mtX7_isOver (l : Launch) (D : va_G) (cA : Nat → ClassId) (ad : Nat → Nat) (hI : pt_I ad) (sz : Nat) (M : pt_M) (Q : Int32 → pt_M → Prop) (hw : wpX7_isOver M Q) : Met l yX7_isOver (Cond.code yX7_isOver cX7_isOver 1 (some .boolean) :: lw_all) ({ frames := 1, cells := 0, slots := 0, locals := 20 } : Room) (va_Pc [.ref (ad 0)] (pt_P D cA ad sz M)) (va_Qi Q (pt_B D cA ad) (pt_fr ad sz)) 0 0 (pt_fr ad sz) := by
  refine Met.ofW (cc := cX7_isOver) (maxL := 1) (ret := (some .boolean)) (by decide) rfl ?_
  intro p e s m args below meth c s₁ B hml hv
  obtain ⟨rfl, hsz, hP, hK⟩ := hv
  have hx := B.exec
  have hb := B.bytes
  have hr := B.returns
  have hts0 := atoms_spec (ws := (Cond.code yX7_isOver cX7_isOver 1 (some .boolean) :: lw_all)) B.pre
  have hown : s.vm.findClass RX7 = some m.cls := findClass_of_methodNamed B.named
  have hlocks := B.notSynchronized
  subst hsz
  have F : pt_F p m c cX7_isOver 1 s _ RX7 D cA := ⟨⟨hx, hb, hml, hown, fun w h => hts0 w (List.mem_cons_of_mem _ h)⟩, hK⟩
  have hD : ∀ M, va_D (pt_fr ad s.heap.size) (pt_W cA ad M) := pt_D hI (fun k h => Or.inl ⟨k, h, rfl⟩)
  have hS : va_S (pt_fr ad s.heap.size) s.heap s.heap [] := va_S.rf
  have hl := lv_entry ([.ref (ad 0)]) (n := 1) (Nat.le_of_ble_eq_true rfl)
  rw [lg_entry_eq]
  generalize (lg_sl ([.ref (ad 0)]) ++ List.replicate (1 - (lg_sl ([.ref (ad 0)])).length) Slot.unset).toArray = ls at hl ⊢
  have hl : lv_has ls 1 [(0, .ref (ad 0))] := hl
  have J22 : ∀ (xs0 : Int32) (M : pt_M) (H : Heap) (locs : List Loc) (ls : Array Slot), wjX7_isOver_22 Q xs0 M → va_P D pt_cl (pt_W cA ad M) H → va_S (pt_fr ad s.heap.size) s.heap H locs → lv_has ls 1 [] → W p l e (headSpec (Cond.code yX7_isOver cX7_isOver 1 (some .boolean) :: lw_all) ({ frames := 1, cells := 0, slots := 0, locals := 20 } : Room)).room s m ([.ref (ad 0)] : List Value).toArray below meth c H locs 0 0 (MQ below (va_Qi Q (pt_B D cA ad) (pt_fr ad s.heap.size)) ([.ref (ad 0)] : List Value).toArray s 0 0 (pt_fr ad s.heap.size)) (F0 m 22 ls [.int xs0]) := by
    intro xs0 M H locs ls hw hP hS hl
    unfold wjX7_isOver_22 at hw
    exact W.zret (v := xs0) (ty := .boolean) hx hb hr (pt_zb_n hw.1) (fun t ht hW => ⟨⟨xs0, M, rfl, hw.2, by unfold pt_B; rw [ht]; exact hP⟩, hS.F ht⟩) hS.2.2 dX7_isOver_22
  have J21 : ∀ (M : pt_M) (H : Heap) (locs : List Loc) (ls : Array Slot), wjX7_isOver_21 Q M → va_P D pt_cl (pt_W cA ad M) H → va_S (pt_fr ad s.heap.size) s.heap H locs → lv_has ls 1 [] → W p l e (headSpec (Cond.code yX7_isOver cX7_isOver 1 (some .boolean) :: lw_all) ({ frames := 1, cells := 0, slots := 0, locals := 20 } : Room)).room s m ([.ref (ad 0)] : List Value).toArray below meth c H locs 0 0 (MQ below (va_Qi Q (pt_B D cA ad) (pt_fr ad s.heap.size)) ([.ref (ad 0)] : List Value).toArray s 0 0 (pt_fr ad s.heap.size)) (F0 m 21 ls []) := by
    intro M H locs ls hw hP hS hl
    unfold wjX7_isOver_21 at hw
    refine lv_iconst (v := 0) hx hb dX7_isOver_21 (by decide) ?_
    exact J22 0 M _ _ _ hw hP hS (lv_sub hl [] rfl)
  unfold wpX7_isOver at hw
  refine lv_aload_n hx hb dX7_isOver_0 rfl (lv_at hl 0 rfl) ?_
  refine pt_get F hP (pt_c7 _ pt_k0) (pt_l7 pt_k0) inX7 rfl 4 (by decide) kw_334 rfl rfl dX7_isOver_1 ?_
  refine lv_if_eq (tgt := 21) hx hb dX7_isOver_4 (by decide) (fun hc4 => ?_) (fun hc4 => ?_)
  · replace hw := hw.1 hc4
    exact J21 M _ _ _ hw hP hS (lv_sub hl [] rfl)
  · replace hw := hw.2 hc4
    refine lv_aload_n hx hb dX7_isOver_7 rfl (lv_at hl 0 rfl) ?_
    refine pt_get F hP (pt_c7 _ pt_k0) (pt_l7 pt_k0) inX7 rfl 1 (by decide) kw_331 rfl rfl dX7_isOver_8 ?_
    refine pt_calli (pt_runV (n := 0) (As := []) (rest := []) F hP (pt_c3 _ pt_k125) (pt_l3 pt_k125) rfl (mtX3_isAtEnd l D cA ad hI _ 125 pt_k125 M _ hw) kw_468 kw_597 kw_31 kw_466 kw_467 ⟨by decide, by decide, by decide +kernel⟩ ⟨rfl, rfl, Nat.le_of_ble_eq_true rfl, Nat.le_of_ble_eq_true rfl⟩ rfl hl.1 rfl (Nat.le_of_ble_eq_true rfl) dX7_isOver_11 ⟨Nat.zero_le _, Nat.zero_le _⟩) hS (fun _ h => h) (fun r_11 M_11 H locs hw hP hS _ _ => ?_)
    refine lv_if_eq (tgt := 21) hx hb dX7_isOver_14 (by decide) (fun hc14 => ?_) (fun hc14 => ?_)
    · replace hw := hw.1 hc14
      exact J21 M_11 _ _ _ hw hP hS (lv_sub hl [] rfl)
    · replace hw := hw.2 hc14
      refine lv_iconst (v := 1) hx hb dX7_isOver_17 (by decide) ?_
      refine lv_goto (tgt := 22) hx hb dX7_isOver_18 (by decide) ?_
      exact J22 1 M_11 _ _ _ hw hP hS (lv_sub hl [] rfl)
-- ===== X7_isEnded
def wpX7_isEnded (p1 : Int32) (M : pt_M) (Q : Int32 → pt_M → Prop) : Prop :=
  wpX7_checkState p1 M (fun (M_2 : pt_M) => wpX1_endedAmong (M_2 (125 + 1) 3) M_2 (fun (r_19 : Int32) (M_19 : pt_M) => wpX7_has r_19 p1 M_19 (fun (r_23 : Int32) (M_23 : pt_M) => pt_zb r_23 ∧ Q r_23 M_23)))
set_option maxHeartbeats 4000000 in
set_option maxRecDepth 100000 in
theorem mtX7_isEnded (l : Launch) (D : va_G) (cA : Nat → ClassId) (ad : Nat → Nat) (hI : pt_I ad) (sz : Nat) (p1 : Int32) (M : pt_M) (Q : Int32 → pt_M → Prop) (hw : wpX7_isEnded p1 M Q) : Met l yX7_isEnded (Cond.code yX7_isEnded cX7_isEnded 2 (some .boolean) :: lw_all) ({ frames := 2, cells := 0, slots := 0, locals := 46 } : Room) (va_Pc [.ref (ad 0), .int p1] (pt_P D cA ad sz M)) (va_Qi Q (pt_B D cA ad) (pt_fr ad sz)) 0 0 (pt_fr ad sz) := by
  refine Met.ofW (cc := cX7_isEnded) (maxL := 2) (ret := (some .boolean)) (by decide) rfl ?_
  intro p e s m args below meth c s₁ B hml hv
  obtain ⟨rfl, hsz, hP, hK⟩ := hv
  have hx := B.exec
  have hb := B.bytes
  have hr := B.returns
  have hts0 := atoms_spec (ws := (Cond.code yX7_isEnded cX7_isEnded 2 (some .boolean) :: lw_all)) B.pre
  have hown : s.vm.findClass RX7 = some m.cls := findClass_of_methodNamed B.named
  have hlocks := B.notSynchronized
  subst hsz
  have F : pt_F p m c cX7_isEnded 2 s _ RX7 D cA := ⟨⟨hx, hb, hml, hown, fun w h => hts0 w (List.mem_cons_of_mem _ h)⟩, hK⟩
  have hD : ∀ M, va_D (pt_fr ad s.heap.size) (pt_W cA ad M) := pt_D hI (fun k h => Or.inl ⟨k, h, rfl⟩)
  have hS : va_S (pt_fr ad s.heap.size) s.heap s.heap [] := va_S.rf
  have hl := lv_entry ([.ref (ad 0), .int p1]) (n := 2) (Nat.le_of_ble_eq_true rfl)
  rw [lg_entry_eq]
  generalize (lg_sl ([.ref (ad 0), .int p1]) ++ List.replicate (2 - (lg_sl ([.ref (ad 0), .int p1])).length) Slot.unset).toArray = ls at hl ⊢
  have hl : lv_has ls 2 [(0, .ref (ad 0)), (1, .int p1)] := hl
  unfold wpX7_isEnded at hw
  refine lv_aload_n hx hb dX7_isEnded_0 rfl (lv_at hl 0 rfl) ?_
  refine lv_iload_n hx hb dX7_isEnded_1 rfl (lv_at hl 1 rfl) ?_
  refine pt_callv (pt_runV (n := 1) (As := [.int p1]) (rest := []) F hP (pt_c7 _ pt_k0) (pt_l7 pt_k0) rfl (mtX7_checkState l D cA ad hI _ p1 M _ hw) kw_605 kw_602 kw_26 kw_604 kw_18 ⟨by decide, by decide, by decide +kernel⟩ ⟨rfl, rfl, Nat.le_of_ble_eq_true rfl, Nat.le_of_ble_eq_true rfl⟩ rfl hl.1 rfl (Nat.le_of_ble_eq_true rfl) dX7_isEnded_2 ⟨Nat.zero_le _, Nat.zero_le _⟩) hS (fun _ h => h) (fun M_2 H locs hw hP hS _ _ => ?_)
  refine lv_aload_n hx hb dX7_isEnded_5 rfl (lv_at hl 0 rfl) ?_
  refine pt_get F hP (pt_c7 _ pt_k0) (pt_l7 pt_k0) inX7 rfl 0 (by decide) kw_330 rfl rfl dX7_isEnded_6 ?_
  refine lv_aload_n hx hb dX7_isEnded_9 rfl (lv_at hl 0 rfl) ?_
  refine pt_get F hP (pt_c7 _ pt_k0) (pt_l7 pt_k0) inX7 rfl 1 (by decide) kw_331 rfl rfl dX7_isEnded_10 ?_
  refine pt_get F hP (pt_c3 _ pt_k125) (pt_l3 pt_k125) inX3 rfl 1 (by decide) kw_252 rfl rfl dX7_isEnded_13 ?_
  refine pt_get F hP (pt_c4 _ (pt_3s pt_k125)) (pt_l4 (pt_3s pt_k125)) inX4 rfl 3 (by decide) kw_239 rfl rfl dX7_isEnded_16 ?_
  refine pt_calli (pt_runV (n := 1) (As := [.int (M_2 (125 + 1) 3)]) (rest := []) F hP (pt_c1 _ pt_k1) (pt_l1 pt_k1) rfl (mtX1_endedAmong l D cA ad hI _ (M_2 (125 + 1) 3) M_2 _ hw) kw_488 kw_621 kw_27 kw_486 kw_487 ⟨by decide, by decide, by decide +kernel⟩ ⟨rfl, rfl, Nat.le_of_ble_eq_true rfl, Nat.le_of_ble_eq_true rfl⟩ rfl hl.1 rfl (Nat.le_of_ble_eq_true rfl) dX7_isEnded_19 ⟨Nat.zero_le _, Nat.zero_le _⟩) hS (fun _ h => h) (fun r_19 M_19 H locs hw hP hS _ _ => ?_)
  refine lv_iload_n hx hb dX7_isEnded_22 rfl (lv_at hl 1 rfl) ?_
  refine pt_calli (pt_runS (n := 2) (As := [.int r_19, .int p1]) (rest := []) F hP (mtX7_has l D cA ad hI _ r_19 p1 M_19 _ hw) kw_436 kw_622 kw_26 kw_435 ⟨by decide, by decide, by decide +kernel⟩ ⟨rfl, rfl, Nat.le_of_ble_eq_true rfl, Nat.le_of_ble_eq_true rfl⟩ rfl hl.1 rfl (Nat.le_of_ble_eq_true rfl) dX7_isEnded_23 ⟨Nat.zero_le _, Nat.zero_le _⟩) hS (fun _ h => h) (fun r_23 M_23 H locs hw hP hS _ _ => ?_)
  exact W.zret (v := r_23) (ty := .boolean) hx hb hr (pt_zb_n hw.1) (fun t ht hW => ⟨⟨r_23, M_23, rfl, hw.2, by unfold pt_B; rw [ht]; exact hP⟩, hS.F ht⟩) hS.2.2 dX7_isEnded_26
-- ===== X7_ageOf
def wpX7_ageOf (p1 : Int32) (M : pt_M) (Q : Int32 → pt_M → Prop) : Prop :=
  wpX7_checkState p1 M (fun (M_2 : pt_M) => vp_in p1 20 ∧ (Q (M_2 ((125 + 1) + 1) (Int32.toNatClampNeg p1)) M_2))
set_option maxHeartbeats 4000000 in
set_option maxRecDepth 100000 in
theorem mtX7_ageOf (l : Launch) (D : va_G) (cA : Nat → ClassId) (ad : Nat → Nat) (hI : pt_I ad) (sz : Nat) (p1 : Int32) (M : pt_M) (Q : Int32 → pt_M → Prop) (hw : wpX7_ageOf p1 M Q) : Met l yX7_ageOf (Cond.code yX7_ageOf cX7_ageOf 2 (some .int) :: lw_all) ({ frames := 2, cells := 0, slots := 0, locals := 43 } : Room) (va_Pc [.ref (ad 0), .int p1] (pt_P D cA ad sz M)) (va_Qi Q (pt_B D cA ad) (pt_fr ad sz)) 0 0 (pt_fr ad sz) := by
  refine Met.ofW (cc := cX7_ageOf) (maxL := 2) (ret := (some .int)) (by decide) rfl ?_
  intro p e s m args below meth c s₁ B hml hv
  obtain ⟨rfl, hsz, hP, hK⟩ := hv
  have hx := B.exec
  have hb := B.bytes
  have hr := B.returns
  have hts0 := atoms_spec (ws := (Cond.code yX7_ageOf cX7_ageOf 2 (some .int) :: lw_all)) B.pre
  have hown : s.vm.findClass RX7 = some m.cls := findClass_of_methodNamed B.named
  have hlocks := B.notSynchronized
  subst hsz
  have F : pt_F p m c cX7_ageOf 2 s _ RX7 D cA := ⟨⟨hx, hb, hml, hown, fun w h => hts0 w (List.mem_cons_of_mem _ h)⟩, hK⟩
  have hD : ∀ M, va_D (pt_fr ad s.heap.size) (pt_W cA ad M) := pt_D hI (fun k h => Or.inl ⟨k, h, rfl⟩)
  have hS : va_S (pt_fr ad s.heap.size) s.heap s.heap [] := va_S.rf
  have hl := lv_entry ([.ref (ad 0), .int p1]) (n := 2) (Nat.le_of_ble_eq_true rfl)
  rw [lg_entry_eq]
  generalize (lg_sl ([.ref (ad 0), .int p1]) ++ List.replicate (2 - (lg_sl ([.ref (ad 0), .int p1])).length) Slot.unset).toArray = ls at hl ⊢
  have hl : lv_has ls 2 [(0, .ref (ad 0)), (1, .int p1)] := hl
  unfold wpX7_ageOf at hw
  refine lv_aload_n hx hb dX7_ageOf_0 rfl (lv_at hl 0 rfl) ?_
  refine lv_iload_n hx hb dX7_ageOf_1 rfl (lv_at hl 1 rfl) ?_
  refine pt_callv (pt_runV (n := 1) (As := [.int p1]) (rest := []) F hP (pt_c7 _ pt_k0) (pt_l7 pt_k0) rfl (mtX7_checkState l D cA ad hI _ p1 M _ hw) kw_605 kw_602 kw_26 kw_604 kw_18 ⟨by decide, by decide, by decide +kernel⟩ ⟨rfl, rfl, Nat.le_of_ble_eq_true rfl, Nat.le_of_ble_eq_true rfl⟩ rfl hl.1 rfl (Nat.le_of_ble_eq_true rfl) dX7_ageOf_2 ⟨Nat.zero_le _, Nat.zero_le _⟩) hS (fun _ h => h) (fun M_2 H locs hw hP hS _ _ => ?_)
  refine lv_aload_n hx hb dX7_ageOf_5 rfl (lv_at hl 0 rfl) ?_
  refine pt_get F hP (pt_c7 _ pt_k0) (pt_l7 pt_k0) inX7 rfl 1 (by decide) kw_331 rfl rfl dX7_ageOf_6 ?_
  refine pt_get F hP (pt_c3 _ pt_k125) (pt_l3 pt_k125) inX3 rfl 1 (by decide) kw_252 rfl rfl dX7_ageOf_9 ?_
  refine pt_get F hP (pt_c4 _ (pt_3s pt_k125)) (pt_l4 (pt_3s pt_k125)) inX4 rfl 0 (by decide) kw_229 rfl rfl dX7_ageOf_12 ?_
  refine lv_iload_n hx hb dX7_ageOf_15 rfl (lv_at hl 1 rfl) ?_
  have hv16 := hw.1
  replace hw := hw.2
  refine pt_iald F hP (pt_4a (pt_3s pt_k125)) hv16 dX7_ageOf_16 ?_
  exact W.iret (v := (M_2 ((125 + 1) + 1) (Int32.toNatClampNeg p1))) hx hb hr (fun t ht hW => ⟨⟨(M_2 ((125 + 1) + 1) (Int32.toNatClampNeg p1)), M_2, rfl, hw, by unfold pt_B; rw [ht]; exact hP⟩, hS.F ht⟩) hS.2.2 dX7_ageOf_17
-- ===== X7_record
def wpX7_record (p1 : Int32) (M : pt_M) (Q : Int32 → pt_M → Prop) : Prop :=
  wpX7_checkState p1 M (fun (M_2 : pt_M) => vp_in p1 20 ∧ (wpX5_isMark (pt_s p1) M_2 (fun (r_14 : Int32) (M_14 : pt_M) => (¬ r_14 = 0 → vp_in p1 20 ∧ (Q (M_14 ((125 + 1) + 2) (Int32.toNatClampNeg p1)) M_14)) ∧ (r_14 = 0 → False))))
set_option maxHeartbeats 4000000 in
set_option maxRecDepth 100000 in
theorem mtX7_record (l : Launch) (D : va_G) (cA : Nat → ClassId) (ad : Nat → Nat) (hI : pt_I ad) (sz : Nat) (p1 : Int32) (M : pt_M) (Q : Int32 → pt_M → Prop) (hw : wpX7_record p1 M Q) : Met l yX7_record (Cond.code yX7_record cX7_record 2 (some .int) :: lw_all) ({ frames := 2, cells := 0, slots := 0, locals := 43 } : Room) (va_Pc [.ref (ad 0), .int p1] (pt_P D cA ad sz M)) (va_Qi Q (pt_B D cA ad) (pt_fr ad sz)) 0 0 (pt_fr ad sz) := by
  refine Met.ofW (cc := cX7_record) (maxL := 2) (ret := (some .int)) (by decide) rfl ?_
  intro p e s m args below meth c s₁ B hml hv
  obtain ⟨rfl, hsz, hP, hK⟩ := hv
  have hx := B.exec
  have hb := B.bytes
  have hr := B.returns
  have hts0 := atoms_spec (ws := (Cond.code yX7_record cX7_record 2 (some .int) :: lw_all)) B.pre
  have hown : s.vm.findClass RX7 = some m.cls := findClass_of_methodNamed B.named
  have hlocks := B.notSynchronized
  subst hsz
  have F : pt_F p m c cX7_record 2 s _ RX7 D cA := ⟨⟨hx, hb, hml, hown, fun w h => hts0 w (List.mem_cons_of_mem _ h)⟩, hK⟩
  have hD : ∀ M, va_D (pt_fr ad s.heap.size) (pt_W cA ad M) := pt_D hI (fun k h => Or.inl ⟨k, h, rfl⟩)
  have hS : va_S (pt_fr ad s.heap.size) s.heap s.heap [] := va_S.rf
  have hl := lv_entry ([.ref (ad 0), .int p1]) (n := 2) (Nat.le_of_ble_eq_true rfl)
  rw [lg_entry_eq]
  generalize (lg_sl ([.ref (ad 0), .int p1]) ++ List.replicate (2 - (lg_sl ([.ref (ad 0), .int p1])).length) Slot.unset).toArray = ls at hl ⊢
  have hl : lv_has ls 2 [(0, .ref (ad 0)), (1, .int p1)] := hl
  unfold wpX7_record at hw
  refine lv_aload_n hx hb dX7_record_0 rfl (lv_at hl 0 rfl) ?_
  refine lv_iload_n hx hb dX7_record_1 rfl (lv_at hl 1 rfl) ?_
  refine pt_callv (pt_runV (n := 1) (As := [.int p1]) (rest := []) F hP (pt_c7 _ pt_k0) (pt_l7 pt_k0) rfl (mtX7_checkState l D cA ad hI _ p1 M _ hw) kw_605 kw_602 kw_26 kw_604 kw_18 ⟨by decide, by decide, by decide +kernel⟩ ⟨rfl, rfl, Nat.le_of_ble_eq_true rfl, Nat.le_of_ble_eq_true rfl⟩ rfl hl.1 rfl (Nat.le_of_ble_eq_true rfl) dX7_record_2 ⟨Nat.zero_le _, Nat.zero_le _⟩) hS (fun _ h => h) (fun M_2 H locs hw hP hS _ _ => ?_)
  refine lv_aload_n hx hb dX7_record_5 rfl (lv_at hl 0 rfl) ?_
  refine pt_get F hP (pt_c7 _ pt_k0) (pt_l7 pt_k0) inX7 rfl 0 (by decide) kw_330 rfl rfl dX7_record_6 ?_
  refine pt_get F hP (pt_c1 _ pt_k1) (pt_l1 pt_k1) inX1 rfl 0 (by decide) kw_183 rfl rfl dX7_record_9 ?_
  refine lv_iload_n hx hb dX7_record_12 rfl (lv_at hl 1 rfl) ?_
  have hv13 := hw.1
  replace hw := hw.2
  refine pt_alds F hP hv13 dX7_record_13 ?_
  refine pt_calli (pt_runV (n := 0) (As := []) (rest := []) F hP (pt_c5 _ (pt_ks hv13)) (pt_l5 (pt_ks hv13)) rfl (mtX5_isMark l D cA ad hI _ (pt_s p1) (pt_ks hv13) M_2 _ hw) kw_529 kw_738 kw_28 kw_527 kw_528 ⟨by decide, by decide, by decide +kernel⟩ ⟨rfl, rfl, Nat.le_of_ble_eq_true rfl, Nat.le_of_ble_eq_true rfl⟩ rfl hl.1 rfl (Nat.le_of_ble_eq_true rfl) dX7_record_14 ⟨Nat.zero_le _, Nat.zero_le _⟩) hS (fun _ h => h) (fun r_14 M_14 H locs hw hP hS _ _ => ?_)
  refine lv_if_ne (tgt := 28) hx hb dX7_record_17 (by decide) (fun hc17 => ?_) (fun hc17 => ?_)
  · replace hw := hw.1 hc17
    refine lv_aload_n hx hb dX7_record_28 rfl (lv_at hl 0 rfl) ?_
    refine pt_get F hP (pt_c7 _ pt_k0) (pt_l7 pt_k0) inX7 rfl 1 (by decide) kw_331 rfl rfl dX7_record_29 ?_
    refine pt_get F hP (pt_c3 _ pt_k125) (pt_l3 pt_k125) inX3 rfl 1 (by decide) kw_252 rfl rfl dX7_record_32 ?_
    refine pt_get F hP (pt_c4 _ (pt_3s pt_k125)) (pt_l4 (pt_3s pt_k125)) inX4 rfl 1 (by decide) kw_232 rfl rfl dX7_record_35 ?_
    refine lv_iload_n hx hb dX7_record_38 rfl (lv_at hl 1 rfl) ?_
    have hv39 := hw.1
    replace hw := hw.2
    refine pt_iald F hP (pt_4r (pt_3s pt_k125)) hv39 dX7_record_39 ?_
    exact W.iret (v := (M_14 ((125 + 1) + 2) (Int32.toNatClampNeg p1))) hx hb hr (fun t ht hW => ⟨⟨(M_14 ((125 + 1) + 2) (Int32.toNatClampNeg p1)), M_14, rfl, hw, by unfold pt_B; rw [ht]; exact hP⟩, hS.F ht⟩) hS.2.2 dX7_record_40
  · replace hw := hw.2 hc17
    exact hw.elim
-- ===== X7_variable
def wpX7_variable (p1 : Int32) (M : pt_M) (Q : Int32 → pt_M → Prop) : Prop :=
  wpX7_isWithin p1 0 3 M (fun (r_3 : Int32) (M_3 : pt_M) => (¬ r_3 = 0 → vp_in p1 4 ∧ (Q (M_3 ((125 + 1) + 3) (Int32.toNatClampNeg p1)) M_3)) ∧ (r_3 = 0 → False))
set_option maxHeartbeats 4000000 in
set_option maxRecDepth 100000 in
theorem mtX7_variable (l : Launch) (D : va_G) (cA : Nat → ClassId) (ad : Nat → Nat) (hI : pt_I ad) (sz : Nat) (p1 : Int32) (M : pt_M) (Q : Int32 → pt_M → Prop) (hw : wpX7_variable p1 M Q) : Met l yX7_variable (Cond.code yX7_variable cX7_variable 2 (some .int) :: lw_all) ({ frames := 1, cells := 0, slots := 0, locals := 22 } : Room) (va_Pc [.ref (ad 0), .int p1] (pt_P D cA ad sz M)) (va_Qi Q (pt_B D cA ad) (pt_fr ad sz)) 0 0 (pt_fr ad sz) := by
  refine Met.ofW (cc := cX7_variable) (maxL := 2) (ret := (some .int)) (by decide) rfl ?_
  intro p e s m args below meth c s₁ B hml hv
  obtain ⟨rfl, hsz, hP, hK⟩ := hv
  have hx := B.exec
  have hb := B.bytes
  have hr := B.returns
  have hts0 := atoms_spec (ws := (Cond.code yX7_variable cX7_variable 2 (some .int) :: lw_all)) B.pre
  have hown : s.vm.findClass RX7 = some m.cls := findClass_of_methodNamed B.named
  have hlocks := B.notSynchronized
  subst hsz
  have F : pt_F p m c cX7_variable 2 s _ RX7 D cA := ⟨⟨hx, hb, hml, hown, fun w h => hts0 w (List.mem_cons_of_mem _ h)⟩, hK⟩
  have hD : ∀ M, va_D (pt_fr ad s.heap.size) (pt_W cA ad M) := pt_D hI (fun k h => Or.inl ⟨k, h, rfl⟩)
  have hS : va_S (pt_fr ad s.heap.size) s.heap s.heap [] := va_S.rf
  have hl := lv_entry ([.ref (ad 0), .int p1]) (n := 2) (Nat.le_of_ble_eq_true rfl)
  rw [lg_entry_eq]
  generalize (lg_sl ([.ref (ad 0), .int p1]) ++ List.replicate (2 - (lg_sl ([.ref (ad 0), .int p1])).length) Slot.unset).toArray = ls at hl ⊢
  have hl : lv_has ls 2 [(0, .ref (ad 0)), (1, .int p1)] := hl
  unfold wpX7_variable at hw
  refine lv_iload_n hx hb dX7_variable_0 rfl (lv_at hl 1 rfl) ?_
  refine lv_iconst (v := 0) hx hb dX7_variable_1 (by decide) ?_
  refine lv_iconst (v := 3) hx hb dX7_variable_2 (by decide) ?_
  refine pt_calli (pt_runS (n := 3) (As := [.int p1, .int 0, .int 3]) (rest := []) F hP (mtX7_isWithin l D cA ad hI _ p1 0 3 M _ hw) kw_565 kw_563 kw_26 kw_564 ⟨by decide, by decide, by decide +kernel⟩ ⟨rfl, rfl, Nat.le_of_ble_eq_true rfl, Nat.le_of_ble_eq_true rfl⟩ rfl hl.1 rfl (Nat.le_of_ble_eq_true rfl) dX7_variable_3 ⟨Nat.zero_le _, Nat.zero_le _⟩) hS (fun _ h => h) (fun r_3 M_3 H locs hw hP hS _ _ => ?_)
  refine lv_if_ne (tgt := 17) hx hb dX7_variable_6 (by decide) (fun hc6 => ?_) (fun hc6 => ?_)
  · replace hw := hw.1 hc6
    refine lv_aload_n hx hb dX7_variable_17 rfl (lv_at hl 0 rfl) ?_
    refine pt_get F hP (pt_c7 _ pt_k0) (pt_l7 pt_k0) inX7 rfl 1 (by decide) kw_331 rfl rfl dX7_variable_18 ?_
    refine pt_get F hP (pt_c3 _ pt_k125) (pt_l3 pt_k125) inX3 rfl 1 (by decide) kw_252 rfl rfl dX7_variable_21 ?_
    refine pt_get F hP (pt_c4 _ (pt_3s pt_k125)) (pt_l4 (pt_3s pt_k125)) inX4 rfl 2 (by decide) kw_235 rfl rfl dX7_variable_24 ?_
    refine lv_iload_n hx hb dX7_variable_27 rfl (lv_at hl 1 rfl) ?_
    have hv28 := hw.1
    replace hw := hw.2
    refine pt_iald F hP (pt_4v (pt_3s pt_k125)) hv28 dX7_variable_28 ?_
    exact W.iret (v := (M_3 ((125 + 1) + 3) (Int32.toNatClampNeg p1))) hx hb hr (fun t ht hW => ⟨⟨(M_3 ((125 + 1) + 3) (Int32.toNatClampNeg p1)), M_3, rfl, hw, by unfold pt_B; rw [ht]; exact hP⟩, hS.F ht⟩) hS.2.2 dX7_variable_29
  · replace hw := hw.2 hc6
    exact hw.elim
-- ===== X7_clock
def wpX7_clock  (M : pt_M) (Q : Int32 → pt_M → Prop) : Prop :=
  Q (M 125 4) M
set_option maxHeartbeats 4000000 in
set_option maxRecDepth 100000 in
theorem mtX7_clock (l : Launch) (D : va_G) (cA : Nat → ClassId) (ad : Nat → Nat) (hI : pt_I ad) (sz : Nat) (M : pt_M) (Q : Int32 → pt_M → Prop) (hw : wpX7_clock M Q) : Met l yX7_clock (Cond.code yX7_clock cX7_clock 1 (some .int) :: lw_all) ({ frames := 0, cells := 0, slots := 0, locals := 0 } : Room) (va_Pc [.ref (ad 0)] (pt_P D cA ad sz M)) (va_Qi Q (pt_B D cA ad) (pt_fr ad sz)) 0 0 (pt_fr ad sz) := by
  refine Met.ofW (cc := cX7_clock) (maxL := 1) (ret := (some .int)) (by decide) rfl ?_
  intro p e s m args below meth c s₁ B hml hv
  obtain ⟨rfl, hsz, hP, hK⟩ := hv
  have hx := B.exec
  have hb := B.bytes
  have hr := B.returns
  have hts0 := atoms_spec (ws := (Cond.code yX7_clock cX7_clock 1 (some .int) :: lw_all)) B.pre
  have hown : s.vm.findClass RX7 = some m.cls := findClass_of_methodNamed B.named
  have hlocks := B.notSynchronized
  subst hsz
  have F : pt_F p m c cX7_clock 1 s _ RX7 D cA := ⟨⟨hx, hb, hml, hown, fun w h => hts0 w (List.mem_cons_of_mem _ h)⟩, hK⟩
  have hD : ∀ M, va_D (pt_fr ad s.heap.size) (pt_W cA ad M) := pt_D hI (fun k h => Or.inl ⟨k, h, rfl⟩)
  have hS : va_S (pt_fr ad s.heap.size) s.heap s.heap [] := va_S.rf
  have hl := lv_entry ([.ref (ad 0)]) (n := 1) (Nat.le_of_ble_eq_true rfl)
  rw [lg_entry_eq]
  generalize (lg_sl ([.ref (ad 0)]) ++ List.replicate (1 - (lg_sl ([.ref (ad 0)])).length) Slot.unset).toArray = ls at hl ⊢
  have hl : lv_has ls 1 [(0, .ref (ad 0))] := hl
  unfold wpX7_clock at hw
  refine lv_aload_n hx hb dX7_clock_0 rfl (lv_at hl 0 rfl) ?_
  refine pt_get F hP (pt_c7 _ pt_k0) (pt_l7 pt_k0) inX7 rfl 1 (by decide) kw_331 rfl rfl dX7_clock_1 ?_
  refine pt_get F hP (pt_c3 _ pt_k125) (pt_l3 pt_k125) inX3 rfl 4 (by decide) kw_258 rfl rfl dX7_clock_4 ?_
  exact W.iret (v := (M 125 4)) hx hb hr (fun t ht hW => ⟨⟨(M 125 4), M, rfl, hw, by unfold pt_B; rw [ht]; exact hP⟩, hS.F ht⟩) hS.2.2 dX7_clock_7
-- ===== X7_fired
def wpX7_fired (p1 : Int32) (M : pt_M) (Q : Int32 → pt_M → Prop) : Prop :=
  wpX7_checkTransition p1 M (fun (M_2 : pt_M) => vp_in p1 30 ∧ (Q (M_2 (125 + 5) (Int32.toNatClampNeg p1)) M_2))
set_option maxHeartbeats 4000000 in
set_option maxRecDepth 100000 in
theorem mtX7_fired (l : Launch) (D : va_G) (cA : Nat → ClassId) (ad : Nat → Nat) (hI : pt_I ad) (sz : Nat) (p1 : Int32) (M : pt_M) (Q : Int32 → pt_M → Prop) (hw : wpX7_fired p1 M Q) : Met l yX7_fired (Cond.code yX7_fired cX7_fired 2 (some .int) :: lw_all) ({ frames := 2, cells := 0, slots := 0, locals := 43 } : Room) (va_Pc [.ref (ad 0), .int p1] (pt_P D cA ad sz M)) (va_Qi Q (pt_B D cA ad) (pt_fr ad sz)) 0 0 (pt_fr ad sz) := by
  refine Met.ofW (cc := cX7_fired) (maxL := 2) (ret := (some .int)) (by decide) rfl ?_
  intro p e s m args below meth c s₁ B hml hv
  obtain ⟨rfl, hsz, hP, hK⟩ := hv
  have hx := B.exec
  have hb := B.bytes
  have hr := B.returns
  have hts0 := atoms_spec (ws := (Cond.code yX7_fired cX7_fired 2 (some .int) :: lw_all)) B.pre
  have hown : s.vm.findClass RX7 = some m.cls := findClass_of_methodNamed B.named
  have hlocks := B.notSynchronized
  subst hsz
  have F : pt_F p m c cX7_fired 2 s _ RX7 D cA := ⟨⟨hx, hb, hml, hown, fun w h => hts0 w (List.mem_cons_of_mem _ h)⟩, hK⟩
  have hD : ∀ M, va_D (pt_fr ad s.heap.size) (pt_W cA ad M) := pt_D hI (fun k h => Or.inl ⟨k, h, rfl⟩)
  have hS : va_S (pt_fr ad s.heap.size) s.heap s.heap [] := va_S.rf
  have hl := lv_entry ([.ref (ad 0), .int p1]) (n := 2) (Nat.le_of_ble_eq_true rfl)
  rw [lg_entry_eq]
  generalize (lg_sl ([.ref (ad 0), .int p1]) ++ List.replicate (2 - (lg_sl ([.ref (ad 0), .int p1])).length) Slot.unset).toArray = ls at hl ⊢
  have hl : lv_has ls 2 [(0, .ref (ad 0)), (1, .int p1)] := hl
  unfold wpX7_fired at hw
  refine lv_aload_n hx hb dX7_fired_0 rfl (lv_at hl 0 rfl) ?_
  refine lv_iload_n hx hb dX7_fired_1 rfl (lv_at hl 1 rfl) ?_
  refine pt_callv (pt_runV (n := 1) (As := [.int p1]) (rest := []) F hP (pt_c7 _ pt_k0) (pt_l7 pt_k0) rfl (mtX7_checkTransition l D cA ad hI _ p1 M _ hw) kw_634 kw_631 kw_26 kw_633 kw_19 ⟨by decide, by decide, by decide +kernel⟩ ⟨rfl, rfl, Nat.le_of_ble_eq_true rfl, Nat.le_of_ble_eq_true rfl⟩ rfl hl.1 rfl (Nat.le_of_ble_eq_true rfl) dX7_fired_2 ⟨Nat.zero_le _, Nat.zero_le _⟩) hS (fun _ h => h) (fun M_2 H locs hw hP hS _ _ => ?_)
  refine lv_aload_n hx hb dX7_fired_5 rfl (lv_at hl 0 rfl) ?_
  refine pt_get F hP (pt_c7 _ pt_k0) (pt_l7 pt_k0) inX7 rfl 1 (by decide) kw_331 rfl rfl dX7_fired_6 ?_
  refine pt_get F hP (pt_c3 _ pt_k125) (pt_l3 pt_k125) inX3 rfl 2 (by decide) kw_254 rfl rfl dX7_fired_9 ?_
  refine lv_iload_n hx hb dX7_fired_12 rfl (lv_at hl 1 rfl) ?_
  have hv13 := hw.1
  replace hw := hw.2
  refine pt_iald F hP (pt_3f pt_k125) hv13 dX7_fired_13 ?_
  exact W.iret (v := (M_2 (125 + 5) (Int32.toNatClampNeg p1))) hx hb hr (fun t ht hW => ⟨⟨(M_2 (125 + 5) (Int32.toNatClampNeg p1)), M_2, rfl, hw, by unfold pt_B; rw [ht]; exact hP⟩, hS.F ht⟩) hS.2.2 dX7_fired_14
-- ===== X7_covered
def wjX7_covered_30  (Q : Int32 → pt_M → Prop) (R4 : Int32 → Int32 → pt_M → Prop) (x1 : Int32) (x2 : Int32) (M : pt_M) : Prop :=
  ∀ x2_30 : Int32, x2_30 = x2 + 1 → R4 x1 x2_30 M
def lbX7_covered_4  (Q : Int32 → pt_M → Prop)  (R4 : Int32 → Int32 → pt_M → Prop) (x1 : Int32) (x2 : Int32) (M : pt_M) : Prop :=
  ((M 1 4) ≤ x2 → Q x1 M) ∧ (¬ (M 1 4) ≤ x2 → vp_in x2 30 ∧ (((M (125 + 5) (Int32.toNatClampNeg x2)) ≤ 0 → wjX7_covered_30 Q R4 x1 x2 M) ∧ (¬ (M (125 + 5) (Int32.toNatClampNeg x2)) ≤ 0 → ∀ x1_27 : Int32, x1_27 = x1 + 1 → wjX7_covered_30 Q R4 x1_27 x2 M)))
def lpX7_covered_4  (Q : Int32 → pt_M → Prop)  : Nat → Int32 → Int32 → pt_M → Prop
  | 0 => fun _ _ _ => False
  | n + 1 => fun x1 x2 M => lbX7_covered_4 Q (lpX7_covered_4 Q n) x1 x2 M
def wpX7_covered  (M : pt_M) (Q : Int32 → pt_M → Prop) : Prop :=
  ∃ n : Nat, lpX7_covered_4 Q n 0 0 M
set_option maxHeartbeats 4000000 in
set_option maxRecDepth 100000 in
theorem mtX7_covered (l : Launch) (D : va_G) (cA : Nat → ClassId) (ad : Nat → Nat) (hI : pt_I ad) (sz : Nat) (M : pt_M) (Q : Int32 → pt_M → Prop) (hw : wpX7_covered M Q) : Met l yX7_covered (Cond.code yX7_covered cX7_covered 3 (some .int) :: lw_all) ({ frames := 0, cells := 0, slots := 0, locals := 0 } : Room) (va_Pc [.ref (ad 0)] (pt_P D cA ad sz M)) (va_Qi Q (pt_B D cA ad) (pt_fr ad sz)) 0 0 (pt_fr ad sz) := by
  refine Met.ofW (cc := cX7_covered) (maxL := 3) (ret := (some .int)) (by decide) rfl ?_
  intro p e s m args below meth c s₁ B hml hv
  obtain ⟨rfl, hsz, hP, hK⟩ := hv
  have hx := B.exec
  have hb := B.bytes
  have hr := B.returns
  have hts0 := atoms_spec (ws := (Cond.code yX7_covered cX7_covered 3 (some .int) :: lw_all)) B.pre
  have hown : s.vm.findClass RX7 = some m.cls := findClass_of_methodNamed B.named
  have hlocks := B.notSynchronized
  subst hsz
  have F : pt_F p m c cX7_covered 3 s _ RX7 D cA := ⟨⟨hx, hb, hml, hown, fun w h => hts0 w (List.mem_cons_of_mem _ h)⟩, hK⟩
  have hD : ∀ M, va_D (pt_fr ad s.heap.size) (pt_W cA ad M) := pt_D hI (fun k h => Or.inl ⟨k, h, rfl⟩)
  have hS : va_S (pt_fr ad s.heap.size) s.heap s.heap [] := va_S.rf
  have hl := lv_entry ([.ref (ad 0)]) (n := 3) (Nat.le_of_ble_eq_true rfl)
  rw [lg_entry_eq]
  generalize (lg_sl ([.ref (ad 0)]) ++ List.replicate (3 - (lg_sl ([.ref (ad 0)])).length) Slot.unset).toArray = ls at hl ⊢
  have hl : lv_has ls 3 [(0, .ref (ad 0))] := hl
  have L4 : ∀ (n4 : Nat) (x1 : Int32) (x2 : Int32) (M : pt_M) (H : Heap) (locs : List Loc) (ls : Array Slot), lpX7_covered_4 Q n4 x1 x2 M → va_P D pt_cl (pt_W cA ad M) H → va_S (pt_fr ad s.heap.size) s.heap H locs → lv_has ls 3 [(0, .ref (ad 0)), (1, .int x1), (2, .int x2)] → W p l e (headSpec (Cond.code yX7_covered cX7_covered 3 (some .int) :: lw_all) ({ frames := 0, cells := 0, slots := 0, locals := 0 } : Room)).room s m ([.ref (ad 0)] : List Value).toArray below meth c H locs 0 0 (MQ below (va_Qi Q (pt_B D cA ad) (pt_fr ad s.heap.size)) ([.ref (ad 0)] : List Value).toArray s 0 0 (pt_fr ad s.heap.size)) (F0 m 4 ls []) := by
    intro n4
    induction n4 with
    | zero => intro x1 x2 M H locs ls hw; exact hw.elim
    | succ n4 ih4 =>
      have J30 : ∀ (x1 : Int32) (x2 : Int32) (M : pt_M) (H : Heap) (locs : List Loc) (ls : Array Slot), wjX7_covered_30 Q (lpX7_covered_4 Q n4) x1 x2 M → va_P D pt_cl (pt_W cA ad M) H → va_S (pt_fr ad s.heap.size) s.heap H locs → lv_has ls 3 [(0, .ref (ad 0)), (1, .int x1), (2, .int x2)] → W p l e (headSpec (Cond.code yX7_covered cX7_covered 3 (some .int) :: lw_all) ({ frames := 0, cells := 0, slots := 0, locals := 0 } : Room)).room s m ([.ref (ad 0)] : List Value).toArray below meth c H locs 0 0 (MQ below (va_Qi Q (pt_B D cA ad) (pt_fr ad s.heap.size)) ([.ref (ad 0)] : List Value).toArray s 0 0 (pt_fr ad s.heap.size)) (F0 m 30 ls []) := by
        intro x1 x2 M H locs ls hw hP hS hl
        unfold wjX7_covered_30 at hw
        obtain ⟨x2_30, ex2_30⟩ : ∃ y : Int32, y = x2 + 1 := ⟨_, rfl⟩
        replace hw := hw x2_30 ex2_30
        refine lv_iinc (v := x2_30) (lv' := [(2, .int x2_30), (0, .ref (ad 0)), (1, .int x1)]) hx hb dX7_covered_30 hl (k := 2) rfl (by rw [ex2_30]; rfl) (by decide) rfl (fun ls hl => ?_)
        refine lv_goto (tgt := 4) hx hb dX7_covered_33 (by decide) ?_
        exact ih4 x1 x2_30 M _ _ _ hw hP hS (lv_sub hl [1, 2, 0] rfl)
      intro x1 x2 M H locs ls hw hP hS hl
      replace hw : lbX7_covered_4 Q (lpX7_covered_4 Q n4) x1 x2 M := hw
      unfold lbX7_covered_4 at hw
      refine lv_iload_n hx hb dX7_covered_4 rfl (lv_at hl 2 rfl) ?_
      refine lv_aload_n hx hb dX7_covered_5 rfl (lv_at hl 0 rfl) ?_
      refine pt_get F hP (pt_c7 _ pt_k0) (pt_l7 pt_k0) inX7 rfl 0 (by decide) kw_330 rfl rfl dX7_covered_6 ?_
      refine pt_get F hP (pt_c1 _ pt_k1) (pt_l1 pt_k1) inX1 rfl 4 (by decide) kw_194 rfl rfl dX7_covered_9 ?_
      refine lv_icmp_ge (tgt := 36) hx hb dX7_covered_12 (by decide) (fun hc12 => ?_) (fun hc12 => ?_)
      · replace hw := hw.1 hc12
        refine lv_iload_n hx hb dX7_covered_36 rfl (lv_at hl 1 rfl) ?_
        exact W.iret (v := x1) hx hb hr (fun t ht hW => ⟨⟨x1, M, rfl, hw, by unfold pt_B; rw [ht]; exact hP⟩, hS.F ht⟩) hS.2.2 dX7_covered_37
      · replace hw := hw.2 hc12
        refine lv_aload_n hx hb dX7_covered_15 rfl (lv_at hl 0 rfl) ?_
        refine pt_get F hP (pt_c7 _ pt_k0) (pt_l7 pt_k0) inX7 rfl 1 (by decide) kw_331 rfl rfl dX7_covered_16 ?_
        refine pt_get F hP (pt_c3 _ pt_k125) (pt_l3 pt_k125) inX3 rfl 2 (by decide) kw_254 rfl rfl dX7_covered_19 ?_
        refine lv_iload_n hx hb dX7_covered_22 rfl (lv_at hl 2 rfl) ?_
        have hv23 := hw.1
        replace hw := hw.2
        refine pt_iald F hP (pt_3f pt_k125) hv23 dX7_covered_23 ?_
        refine lv_if_le (tgt := 30) hx hb dX7_covered_24 (by decide) (fun hc24 => ?_) (fun hc24 => ?_)
        · replace hw := hw.1 hc24
          exact J30 x1 x2 M _ _ _ hw hP hS (lv_sub hl [0, 1, 2] rfl)
        · replace hw := hw.2 hc24
          obtain ⟨x1_27, ex1_27⟩ : ∃ y : Int32, y = x1 + 1 := ⟨_, rfl⟩
          replace hw := hw x1_27 ex1_27
          refine lv_iinc (v := x1_27) (lv' := [(1, .int x1_27), (0, .ref (ad 0)), (2, .int x2)]) hx hb dX7_covered_27 hl (k := 1) rfl (by rw [ex1_27]; rfl) (by decide) rfl (fun ls hl => ?_)
          exact J30 x1_27 x2 M _ _ _ hw hP hS (lv_sub hl [1, 0, 2] rfl)
  unfold wpX7_covered at hw
  refine lv_iconst (v := 0) hx hb dX7_covered_0 (by decide) ?_
  refine lv_istore_n (lv' := [(1, .int 0), (0, .ref (ad 0))]) hx hb dX7_covered_1 rfl hl (by decide) rfl (fun ls hl => ?_)
  refine lv_iconst (v := 0) hx hb dX7_covered_2 (by decide) ?_
  refine lv_istore_n (lv' := [(2, .int 0), (1, .int 0), (0, .ref (ad 0))]) hx hb dX7_covered_3 rfl hl (by decide) rfl (fun ls hl => ?_)
  obtain ⟨n_, hw⟩ := hw
  exact L4 n_ 0 0 M _ _ _ hw hP hS (lv_sub hl [2, 1, 0] rfl)
-- ===== X7_lost
def wpX7_lost  (M : pt_M) (Q : Int32 → pt_M → Prop) : Prop :=
  Q (M 125 5) M
set_option maxHeartbeats 4000000 in
set_option maxRecDepth 100000 in
theorem mtX7_lost (l : Launch) (D : va_G) (cA : Nat → ClassId) (ad : Nat → Nat) (hI : pt_I ad) (sz : Nat) (M : pt_M) (Q : Int32 → pt_M → Prop) (hw : wpX7_lost M Q) : Met l yX7_lost (Cond.code yX7_lost cX7_lost 1 (some .int) :: lw_all) ({ frames := 0, cells := 0, slots := 0, locals := 0 } : Room) (va_Pc [.ref (ad 0)] (pt_P D cA ad sz M)) (va_Qi Q (pt_B D cA ad) (pt_fr ad sz)) 0 0 (pt_fr ad sz) := by
  refine Met.ofW (cc := cX7_lost) (maxL := 1) (ret := (some .int)) (by decide) rfl ?_
  intro p e s m args below meth c s₁ B hml hv
  obtain ⟨rfl, hsz, hP, hK⟩ := hv
  have hx := B.exec
  have hb := B.bytes
  have hr := B.returns
  have hts0 := atoms_spec (ws := (Cond.code yX7_lost cX7_lost 1 (some .int) :: lw_all)) B.pre
  have hown : s.vm.findClass RX7 = some m.cls := findClass_of_methodNamed B.named
  have hlocks := B.notSynchronized
  subst hsz
  have F : pt_F p m c cX7_lost 1 s _ RX7 D cA := ⟨⟨hx, hb, hml, hown, fun w h => hts0 w (List.mem_cons_of_mem _ h)⟩, hK⟩
  have hD : ∀ M, va_D (pt_fr ad s.heap.size) (pt_W cA ad M) := pt_D hI (fun k h => Or.inl ⟨k, h, rfl⟩)
  have hS : va_S (pt_fr ad s.heap.size) s.heap s.heap [] := va_S.rf
  have hl := lv_entry ([.ref (ad 0)]) (n := 1) (Nat.le_of_ble_eq_true rfl)
  rw [lg_entry_eq]
  generalize (lg_sl ([.ref (ad 0)]) ++ List.replicate (1 - (lg_sl ([.ref (ad 0)])).length) Slot.unset).toArray = ls at hl ⊢
  have hl : lv_has ls 1 [(0, .ref (ad 0))] := hl
  unfold wpX7_lost at hw
  refine lv_aload_n hx hb dX7_lost_0 rfl (lv_at hl 0 rfl) ?_
  refine pt_get F hP (pt_c7 _ pt_k0) (pt_l7 pt_k0) inX7 rfl 1 (by decide) kw_331 rfl rfl dX7_lost_1 ?_
  refine pt_get F hP (pt_c3 _ pt_k125) (pt_l3 pt_k125) inX3 rfl 5 (by decide) kw_260 rfl rfl dX7_lost_4 ?_
  exact W.iret (v := (M 125 5)) hx hb hr (fun t ht hW => ⟨⟨(M 125 5), M, rfl, hw, by unfold pt_B; rw [ht]; exact hP⟩, hS.F ht⟩) hS.2.2 dX7_lost_7
-- ===== X7_restless
def wpX7_restless  (M : pt_M) (Q : Int32 → pt_M → Prop) : Prop :=
  Q (M 125 6) M
set_option maxHeartbeats 4000000 in
set_option maxRecDepth 100000 in
theorem mtX7_restless (l : Launch) (D : va_G) (cA : Nat → ClassId) (ad : Nat → Nat) (hI : pt_I ad) (sz : Nat) (M : pt_M) (Q : Int32 → pt_M → Prop) (hw : wpX7_restless M Q) : Met l yX7_restless (Cond.code yX7_restless cX7_restless 1 (some .int) :: lw_all) ({ frames := 0, cells := 0, slots := 0, locals := 0 } : Room) (va_Pc [.ref (ad 0)] (pt_P D cA ad sz M)) (va_Qi Q (pt_B D cA ad) (pt_fr ad sz)) 0 0 (pt_fr ad sz) := by
  refine Met.ofW (cc := cX7_restless) (maxL := 1) (ret := (some .int)) (by decide) rfl ?_
  intro p e s m args below meth c s₁ B hml hv
  obtain ⟨rfl, hsz, hP, hK⟩ := hv
  have hx := B.exec
  have hb := B.bytes
  have hr := B.returns
  have hts0 := atoms_spec (ws := (Cond.code yX7_restless cX7_restless 1 (some .int) :: lw_all)) B.pre
  have hown : s.vm.findClass RX7 = some m.cls := findClass_of_methodNamed B.named
  have hlocks := B.notSynchronized
  subst hsz
  have F : pt_F p m c cX7_restless 1 s _ RX7 D cA := ⟨⟨hx, hb, hml, hown, fun w h => hts0 w (List.mem_cons_of_mem _ h)⟩, hK⟩
  have hD : ∀ M, va_D (pt_fr ad s.heap.size) (pt_W cA ad M) := pt_D hI (fun k h => Or.inl ⟨k, h, rfl⟩)
  have hS : va_S (pt_fr ad s.heap.size) s.heap s.heap [] := va_S.rf
  have hl := lv_entry ([.ref (ad 0)]) (n := 1) (Nat.le_of_ble_eq_true rfl)
  rw [lg_entry_eq]
  generalize (lg_sl ([.ref (ad 0)]) ++ List.replicate (1 - (lg_sl ([.ref (ad 0)])).length) Slot.unset).toArray = ls at hl ⊢
  have hl : lv_has ls 1 [(0, .ref (ad 0))] := hl
  unfold wpX7_restless at hw
  refine lv_aload_n hx hb dX7_restless_0 rfl (lv_at hl 0 rfl) ?_
  refine pt_get F hP (pt_c7 _ pt_k0) (pt_l7 pt_k0) inX7 rfl 1 (by decide) kw_331 rfl rfl dX7_restless_1 ?_
  refine pt_get F hP (pt_c3 _ pt_k125) (pt_l3 pt_k125) inX3 rfl 6 (by decide) kw_262 rfl rfl dX7_restless_4 ?_
  exact W.iret (v := (M 125 6)) hx hb hr (fun t ht hW => ⟨⟨(M 125 6), M, rfl, hw, by unfold pt_B; rw [ht]; exact hP⟩, hS.F ht⟩) hS.2.2 dX7_restless_7
