-- ===== X7_start
def wpX7_start  (M : pt_M) (Q : Int32 → pt_M → Prop) : Prop :=
  wpX7_checkResting M (fun (M_1 : pt_M) => ∀ M_6 : pt_M, M_6 = pt_st M_1 0 4 1 → wpX3_reset 125 M_6 (fun (M_13 : pt_M) => wpX7_setOf 0 M_13 (fun (r_25 : Int32) (M_25 : pt_M) => wpX1_filled r_25 M_25 (fun (r_28 : Int32) (M_28 : pt_M) => wpX3_enter 125 r_28 M_28 (fun (M_31 : pt_M) => wpX3_proceed 125 11 M_31 (fun (r_40 : Int32) (M_40 : pt_M) => Q r_40 M_40))))))
set_option maxHeartbeats 4000000 in
set_option maxRecDepth 100000 in
theorem mtX7_start (l : Launch) (D : va_G) (cA : Nat → ClassId) (ad : Nat → Nat) (hI : pt_I ad) (sz : Nat) (M : pt_M) (Q : Int32 → pt_M → Prop) (hw : wpX7_start M Q) : Met l yX7_start (Cond.code yX7_start cX7_start 1 (some .int) :: lw_all) ({ frames := 6, cells := 0, slots := 0, locals := 141 } : Room) (va_Pc [.ref (ad 0)] (pt_P D cA ad sz M)) (va_Qi Q (pt_B D cA ad) (pt_fr ad sz)) 0 0 (pt_fr ad sz) := by
  refine Met.ofW (cc := cX7_start) (maxL := 1) (ret := (some .int)) (by decide) rfl ?_
  intro p e s m args below meth c s₁ B hml hv
  obtain ⟨rfl, hsz, hP, hK⟩ := hv
  have hx := B.exec
  have hb := B.bytes
  have hr := B.returns
  have hts0 := atoms_spec (ws := (Cond.code yX7_start cX7_start 1 (some .int) :: lw_all)) B.pre
  have hown : s.vm.findClass RX7 = some m.cls := findClass_of_methodNamed B.named
  have hlocks := B.notSynchronized
  subst hsz
  have F : pt_F p m c cX7_start 1 s _ RX7 D cA := ⟨⟨hx, hb, hml, hown, fun w h => hts0 w (List.mem_cons_of_mem _ h)⟩, hK⟩
  have hD : ∀ M, va_D (pt_fr ad s.heap.size) (pt_W cA ad M) := pt_D hI (fun k h => Or.inl ⟨k, h, rfl⟩)
  have hS : va_S (pt_fr ad s.heap.size) s.heap s.heap [] := va_S.rf
  have hl := lv_entry ([.ref (ad 0)]) (n := 1) (Nat.le_of_ble_eq_true rfl)
  rw [lg_entry_eq]
  generalize (lg_sl ([.ref (ad 0)]) ++ List.replicate (1 - (lg_sl ([.ref (ad 0)])).length) Slot.unset).toArray = ls at hl ⊢
  have hl : lv_has ls 1 [(0, .ref (ad 0))] := hl
  unfold wpX7_start at hw
  refine lv_aload_n hx hb dX7_start_0 rfl (lv_at hl 0 rfl) ?_
  refine pt_callv (pt_runV (n := 0) (As := []) (rest := []) F hP (pt_c7 _ pt_k0) (pt_l7 pt_k0) rfl (mtX7_checkResting l D cA ad hI _ M _ hw) kw_639 kw_636 kw_52 kw_638 kw_4 ⟨by decide, by decide, by decide +kernel⟩ ⟨rfl, rfl, Nat.le_of_ble_eq_true rfl, Nat.le_of_ble_eq_true rfl⟩ rfl hl.1 rfl (Nat.le_of_ble_eq_true rfl) dX7_start_1 ⟨Nat.zero_le _, Nat.zero_le _⟩) hS (fun _ h => h) (fun M_1 H locs hw hP hS _ _ => ?_)
  refine lv_aload_n hx hb dX7_start_4 rfl (lv_at hl 0 rfl) ?_
  refine lv_iconst (v := 1) hx hb dX7_start_5 (by decide) ?_
  refine pt_put F hP hD hS (pt_c7 _ pt_k0) (pt_l7 pt_k0) inX7 tyX7 tyX7_ok nmX7 rfl 4 (by decide) kw_374 rfl rfl rfl rfl (Nat.le_of_ble_eq_true rfl) (pt_c7 _ pt_k0) dX7_start_6 (fun M_6 H locs eM_6 hP hS => ?_)
  replace hw := hw M_6 eM_6
  refine lv_aload_n hx hb dX7_start_9 rfl (lv_at hl 0 rfl) ?_
  refine pt_get F hP (pt_c7 _ pt_k0) (pt_l7 pt_k0) inX7 rfl 1 (by decide) kw_371 rfl rfl dX7_start_10 ?_
  refine pt_callv (pt_runV (n := 0) (As := []) (rest := []) F hP (pt_c3 _ pt_k125) (pt_l3 pt_k125) rfl (mtX3_reset l D cA ad hI _ 125 pt_k125 M_6 _ hw) kw_706 kw_703 kw_57 kw_704 kw_705 ⟨by decide, by decide, by decide +kernel⟩ ⟨rfl, rfl, Nat.le_of_ble_eq_true rfl, Nat.le_of_ble_eq_true rfl⟩ rfl hl.1 rfl (Nat.le_of_ble_eq_true rfl) dX7_start_13 ⟨Nat.zero_le _, Nat.zero_le _⟩) hS (fun _ h => h) (fun M_13 H locs hw hP hS _ _ => ?_)
  refine lv_aload_n hx hb dX7_start_16 rfl (lv_at hl 0 rfl) ?_
  refine pt_get F hP (pt_c7 _ pt_k0) (pt_l7 pt_k0) inX7 rfl 1 (by decide) kw_371 rfl rfl dX7_start_17 ?_
  refine lv_aload_n hx hb dX7_start_20 rfl (lv_at hl 0 rfl) ?_
  refine pt_get F hP (pt_c7 _ pt_k0) (pt_l7 pt_k0) inX7 rfl 0 (by decide) kw_370 rfl rfl dX7_start_21 ?_
  refine lv_iconst (v := 0) hx hb dX7_start_24 (by decide) ?_
  refine pt_calli (pt_runS (n := 1) (As := [.int 0]) (rest := [.ref (ad 1), .ref (ad 125)]) F hP (mtX7_setOf l D cA ad hI _ 0 M_13 _ hw) kw_103 kw_715 kw_52 kw_102 ⟨by decide, by decide, by decide +kernel⟩ ⟨rfl, rfl, Nat.le_of_ble_eq_true rfl, Nat.le_of_ble_eq_true rfl⟩ rfl hl.1 rfl (Nat.le_of_ble_eq_true rfl) dX7_start_25 ⟨Nat.zero_le _, Nat.zero_le _⟩) hS (fun _ h => h) (fun r_25 M_25 H locs hw hP hS _ _ => ?_)
  refine pt_calli (pt_runV (n := 1) (As := [.int r_25]) (rest := [.ref (ad 125)]) F hP (pt_c1 _ pt_k1) (pt_l1 pt_k1) rfl (mtX1_filled l D cA ad hI _ r_25 M_25 _ hw) kw_719 kw_716 kw_53 kw_717 kw_718 ⟨by decide, by decide, by decide +kernel⟩ ⟨rfl, rfl, Nat.le_of_ble_eq_true rfl, Nat.le_of_ble_eq_true rfl⟩ rfl hl.1 rfl (Nat.le_of_ble_eq_true rfl) dX7_start_28 ⟨Nat.zero_le _, Nat.zero_le _⟩) hS (fun _ h => h) (fun r_28 M_28 H locs hw hP hS _ _ => ?_)
  refine pt_callv (pt_runV (n := 1) (As := [.int r_28]) (rest := []) F hP (pt_c3 _ pt_k125) (pt_l3 pt_k125) rfl (mtX3_enter l D cA ad hI _ 125 pt_k125 r_28 M_28 _ hw) kw_723 kw_720 kw_57 kw_721 kw_722 ⟨by decide, by decide, by decide +kernel⟩ ⟨rfl, rfl, Nat.le_of_ble_eq_true rfl, Nat.le_of_ble_eq_true rfl⟩ rfl hl.1 rfl (Nat.le_of_ble_eq_true rfl) dX7_start_31 ⟨Nat.zero_le _, Nat.zero_le _⟩) hS (fun _ h => h) (fun M_31 H locs hw hP hS _ _ => ?_)
  refine lv_aload_n hx hb dX7_start_34 rfl (lv_at hl 0 rfl) ?_
  refine pt_get F hP (pt_c7 _ pt_k0) (pt_l7 pt_k0) inX7 rfl 1 (by decide) kw_371 rfl rfl dX7_start_35 ?_
  refine lv_bipush (v := 11) hx hb dX7_start_38 (by decide) ?_
  refine pt_calli (pt_runV (n := 1) (As := [.int 11]) (rest := []) F hP (pt_c3 _ pt_k125) (pt_l3 pt_k125) rfl (mtX3_proceed l D cA ad hI _ 125 pt_k125 11 M_31 _ hw) kw_747 kw_744 kw_57 kw_745 kw_746 ⟨by decide, by decide, by decide +kernel⟩ ⟨rfl, rfl, Nat.le_of_ble_eq_true rfl, Nat.le_of_ble_eq_true rfl⟩ rfl hl.1 rfl (Nat.le_of_ble_eq_true rfl) dX7_start_40 ⟨Nat.zero_le _, Nat.zero_le _⟩) hS (fun _ h => h) (fun r_40 M_40 H locs hw hP hS _ _ => ?_)
  exact W.iret (v := r_40) hx hb hr (fun t ht hW => ⟨⟨r_40, M_40, rfl, hw, by unfold pt_B; rw [ht]; exact hP⟩, hS.F ht⟩) hS.2.2 dX7_start_43
-- ===== X7_stop
def wpX7_stop  (M : pt_M) (Q : Int32 → pt_M → Prop) : Prop :=
  wpX7_checkRunning M (fun (M_1 : pt_M) => ∀ M_6 : pt_M, M_6 = pt_st M_1 0 4 0 → wpJ6_bitCount_0f7a4 (M_6 (125 + 1) 3) M_6 (fun (r_19 : Int32) (M_19 : pt_M) => wpX4_deactivate (125 + 1) M_19 (fun (M_30 : pt_M) => Q r_19 M_30)))
set_option maxHeartbeats 4000000 in
set_option maxRecDepth 100000 in
theorem mtX7_stop (l : Launch) (D : va_G) (cA : Nat → ClassId) (ad : Nat → Nat) (hI : pt_I ad) (sz : Nat) (M : pt_M) (Q : Int32 → pt_M → Prop) (hw : wpX7_stop M Q) : Met l yX7_stop (Cond.code yX7_stop cX7_stop 2 (some .int) :: lw_all) ({ frames := 1, cells := 0, slots := 0, locals := 21 } : Room) (va_Pc [.ref (ad 0)] (pt_P D cA ad sz M)) (va_Qi Q (pt_B D cA ad) (pt_fr ad sz)) 0 0 (pt_fr ad sz) := by
  refine Met.ofW (cc := cX7_stop) (maxL := 2) (ret := (some .int)) (by decide) rfl ?_
  intro p e s m args below meth c s₁ B hml hv
  obtain ⟨rfl, hsz, hP, hK⟩ := hv
  have hx := B.exec
  have hb := B.bytes
  have hr := B.returns
  have hts0 := atoms_spec (ws := (Cond.code yX7_stop cX7_stop 2 (some .int) :: lw_all)) B.pre
  have hown : s.vm.findClass RX7 = some m.cls := findClass_of_methodNamed B.named
  have hlocks := B.notSynchronized
  subst hsz
  have F : pt_F p m c cX7_stop 2 s _ RX7 D cA := ⟨⟨hx, hb, hml, hown, fun w h => hts0 w (List.mem_cons_of_mem _ h)⟩, hK⟩
  have hD : ∀ M, va_D (pt_fr ad s.heap.size) (pt_W cA ad M) := pt_D hI (fun k h => Or.inl ⟨k, h, rfl⟩)
  have hS : va_S (pt_fr ad s.heap.size) s.heap s.heap [] := va_S.rf
  have hl := lv_entry ([.ref (ad 0)]) (n := 2) (Nat.le_of_ble_eq_true rfl)
  rw [lg_entry_eq]
  generalize (lg_sl ([.ref (ad 0)]) ++ List.replicate (2 - (lg_sl ([.ref (ad 0)])).length) Slot.unset).toArray = ls at hl ⊢
  have hl : lv_has ls 2 [(0, .ref (ad 0))] := hl
  unfold wpX7_stop at hw
  refine lv_aload_n hx hb dX7_stop_0 rfl (lv_at hl 0 rfl) ?_
  refine pt_callv (pt_runV (n := 0) (As := []) (rest := []) F hP (pt_c7 _ pt_k0) (pt_l7 pt_k0) rfl (mtX7_checkRunning l D cA ad hI _ M _ hw) kw_831 kw_828 kw_52 kw_830 kw_21 ⟨by decide, by decide, by decide +kernel⟩ ⟨rfl, rfl, Nat.le_of_ble_eq_true rfl, Nat.le_of_ble_eq_true rfl⟩ rfl hl.1 rfl (Nat.le_of_ble_eq_true rfl) dX7_stop_1 ⟨Nat.zero_le _, Nat.zero_le _⟩) hS (fun _ h => h) (fun M_1 H locs hw hP hS _ _ => ?_)
  refine lv_aload_n hx hb dX7_stop_4 rfl (lv_at hl 0 rfl) ?_
  refine lv_iconst (v := 0) hx hb dX7_stop_5 (by decide) ?_
  refine pt_put F hP hD hS (pt_c7 _ pt_k0) (pt_l7 pt_k0) inX7 tyX7 tyX7_ok nmX7 rfl 4 (by decide) kw_374 rfl rfl rfl rfl (Nat.le_of_ble_eq_true rfl) (pt_c7 _ pt_k0) dX7_stop_6 (fun M_6 H locs eM_6 hP hS => ?_)
  replace hw := hw M_6 eM_6
  refine lv_aload_n hx hb dX7_stop_9 rfl (lv_at hl 0 rfl) ?_
  refine pt_get F hP (pt_c7 _ pt_k0) (pt_l7 pt_k0) inX7 rfl 1 (by decide) kw_371 rfl rfl dX7_stop_10 ?_
  refine pt_get F hP (pt_c3 _ pt_k125) (pt_l3 pt_k125) inX3 rfl 1 (by decide) kw_292 rfl rfl dX7_stop_13 ?_
  refine pt_get F hP (pt_c4 _ (pt_3s pt_k125)) (pt_l4 (pt_3s pt_k125)) inX4 rfl 3 (by decide) kw_279 rfl rfl dX7_stop_16 ?_
  refine pt_calli (pt_runS (n := 1) (As := [.int (M_6 (125 + 1) 3)]) (rest := []) F hP (mtJ6_bitCount_0f7a4 l D cA ad hI _ (M_6 (125 + 1) 3) M_6 _ hw) kw_443 kw_441 kw_80 kw_442 ⟨by decide, by decide, by decide +kernel⟩ ⟨rfl, rfl, Nat.le_of_ble_eq_true rfl, Nat.le_of_ble_eq_true rfl⟩ rfl hl.1 rfl (Nat.le_of_ble_eq_true rfl) dX7_stop_19 ⟨Nat.zero_le _, Nat.zero_le _⟩) hS (fun _ h => h) (fun r_19 M_19 H locs hw hP hS _ _ => ?_)
  refine lv_istore_n (lv' := [(1, .int r_19), (0, .ref (ad 0))]) hx hb dX7_stop_22 rfl hl (by decide) rfl (fun ls hl => ?_)
  refine lv_aload_n hx hb dX7_stop_23 rfl (lv_at hl 1 rfl) ?_
  refine pt_get F hP (pt_c7 _ pt_k0) (pt_l7 pt_k0) inX7 rfl 1 (by decide) kw_371 rfl rfl dX7_stop_24 ?_
  refine pt_get F hP (pt_c3 _ pt_k125) (pt_l3 pt_k125) inX3 rfl 1 (by decide) kw_292 rfl rfl dX7_stop_27 ?_
  refine pt_callv (pt_runV (n := 0) (As := []) (rest := []) F hP (pt_c4 _ (pt_3s pt_k125)) (pt_l4 (pt_3s pt_k125)) rfl (mtX4_deactivate l D cA ad hI _ (125 + 1) (pt_3s pt_k125) M_19 _ hw) kw_714 kw_832 kw_58 kw_712 kw_713 ⟨by decide, by decide, by decide +kernel⟩ ⟨rfl, rfl, Nat.le_of_ble_eq_true rfl, Nat.le_of_ble_eq_true rfl⟩ rfl hl.1 rfl (Nat.le_of_ble_eq_true rfl) dX7_stop_30 ⟨Nat.zero_le _, Nat.zero_le _⟩) hS (fun _ h => h) (fun M_30 H locs hw hP hS _ _ => ?_)
  refine lv_iload_n hx hb dX7_stop_33 rfl (lv_at hl 0 rfl) ?_
  exact W.iret (v := r_19) hx hb hr (fun t ht hW => ⟨⟨r_19, M_30, rfl, hw, by unfold pt_B; rw [ht]; exact hP⟩, hS.F ht⟩) hS.2.2 dX7_stop_34
-- ===== X7_send
def wpX7_send (p1 : Int32) (M : pt_M) (Q : Int32 → pt_M → Prop) : Prop :=
  wpX7_checkRunning M (fun (M_1 : pt_M) => wpX7_checkEvent p1 M_1 (fun (M_5 : pt_M) => wpX3_proceed 125 p1 M_5 (fun (r_13 : Int32) (M_13 : pt_M) => Q r_13 M_13)))
set_option maxHeartbeats 4000000 in
set_option maxRecDepth 100000 in
theorem mtX7_send (l : Launch) (D : va_G) (cA : Nat → ClassId) (ad : Nat → Nat) (hI : pt_I ad) (sz : Nat) (p1 : Int32) (M : pt_M) (Q : Int32 → pt_M → Prop) (hw : wpX7_send p1 M Q) : Met l yX7_send (Cond.code yX7_send cX7_send 2 (some .int) :: lw_all) ({ frames := 6, cells := 0, slots := 0, locals := 141 } : Room) (va_Pc [.ref (ad 0), .int p1] (pt_P D cA ad sz M)) (va_Qi Q (pt_B D cA ad) (pt_fr ad sz)) 0 0 (pt_fr ad sz) := by
  refine Met.ofW (cc := cX7_send) (maxL := 2) (ret := (some .int)) (by decide) rfl ?_
  intro p e s m args below meth c s₁ B hml hv
  obtain ⟨rfl, hsz, hP, hK⟩ := hv
  have hx := B.exec
  have hb := B.bytes
  have hr := B.returns
  have hts0 := atoms_spec (ws := (Cond.code yX7_send cX7_send 2 (some .int) :: lw_all)) B.pre
  have hown : s.vm.findClass RX7 = some m.cls := findClass_of_methodNamed B.named
  have hlocks := B.notSynchronized
  subst hsz
  have F : pt_F p m c cX7_send 2 s _ RX7 D cA := ⟨⟨hx, hb, hml, hown, fun w h => hts0 w (List.mem_cons_of_mem _ h)⟩, hK⟩
  have hD : ∀ M, va_D (pt_fr ad s.heap.size) (pt_W cA ad M) := pt_D hI (fun k h => Or.inl ⟨k, h, rfl⟩)
  have hS : va_S (pt_fr ad s.heap.size) s.heap s.heap [] := va_S.rf
  have hl := lv_entry ([.ref (ad 0), .int p1]) (n := 2) (Nat.le_of_ble_eq_true rfl)
  rw [lg_entry_eq]
  generalize (lg_sl ([.ref (ad 0), .int p1]) ++ List.replicate (2 - (lg_sl ([.ref (ad 0), .int p1])).length) Slot.unset).toArray = ls at hl ⊢
  have hl : lv_has ls 2 [(0, .ref (ad 0)), (1, .int p1)] := hl
  unfold wpX7_send at hw
  refine lv_aload_n hx hb dX7_send_0 rfl (lv_at hl 0 rfl) ?_
  refine pt_callv (pt_runV (n := 0) (As := []) (rest := []) F hP (pt_c7 _ pt_k0) (pt_l7 pt_k0) rfl (mtX7_checkRunning l D cA ad hI _ M _ hw) kw_831 kw_828 kw_52 kw_830 kw_21 ⟨by decide, by decide, by decide +kernel⟩ ⟨rfl, rfl, Nat.le_of_ble_eq_true rfl, Nat.le_of_ble_eq_true rfl⟩ rfl hl.1 rfl (Nat.le_of_ble_eq_true rfl) dX7_send_1 ⟨Nat.zero_le _, Nat.zero_le _⟩) hS (fun _ h => h) (fun M_1 H locs hw hP hS _ _ => ?_)
  refine lv_iload_n hx hb dX7_send_4 rfl (lv_at hl 1 rfl) ?_
  refine pt_callv (pt_runS (n := 1) (As := [.int p1]) (rest := []) F hP (mtX7_checkEvent l D cA ad hI _ p1 M_1 _ hw) kw_842 kw_840 kw_52 kw_841 ⟨by decide, by decide, by decide +kernel⟩ ⟨rfl, rfl, Nat.le_of_ble_eq_true rfl, Nat.le_of_ble_eq_true rfl⟩ rfl hl.1 rfl (Nat.le_of_ble_eq_true rfl) dX7_send_5 ⟨Nat.zero_le _, Nat.zero_le _⟩) hS (fun _ h => h) (fun M_5 H locs hw hP hS _ _ => ?_)
  refine lv_aload_n hx hb dX7_send_8 rfl (lv_at hl 0 rfl) ?_
  refine pt_get F hP (pt_c7 _ pt_k0) (pt_l7 pt_k0) inX7 rfl 1 (by decide) kw_371 rfl rfl dX7_send_9 ?_
  refine lv_iload_n hx hb dX7_send_12 rfl (lv_at hl 1 rfl) ?_
  refine pt_calli (pt_runV (n := 1) (As := [.int p1]) (rest := []) F hP (pt_c3 _ pt_k125) (pt_l3 pt_k125) rfl (mtX3_proceed l D cA ad hI _ 125 pt_k125 p1 M_5 _ hw) kw_747 kw_744 kw_57 kw_745 kw_746 ⟨by decide, by decide, by decide +kernel⟩ ⟨rfl, rfl, Nat.le_of_ble_eq_true rfl, Nat.le_of_ble_eq_true rfl⟩ rfl hl.1 rfl (Nat.le_of_ble_eq_true rfl) dX7_send_13 ⟨Nat.zero_le _, Nat.zero_le _⟩) hS (fun _ h => h) (fun r_13 M_13 H locs hw hP hS _ _ => ?_)
  exact W.iret (v := r_13) hx hb hr (fun t ht hW => ⟨⟨r_13, M_13, rfl, hw, by unfold pt_B; rw [ht]; exact hP⟩, hS.F ht⟩) hS.2.2 dX7_send_16
-- ===== X7_tick
def lbX7_tick_26 (p1 : Int32) (Q : Int32 → pt_M → Prop)  (R26 : Int32 → Int32 → pt_M → Prop) (x2 : Int32) (x3 : Int32) (M : pt_M) : Prop :=
  (p1 ≤ x3 → Q x2 M) ∧ (¬ p1 ≤ x3 → wpX3_proceed 125 10 M (fun (r_38 : Int32) (M_38 : pt_M) => ∀ x2_42 : Int32, x2_42 = (x2 + r_38) → ∀ x3_43 : Int32, x3_43 = x3 + 1 → R26 x2_42 x3_43 M_38))
def lpX7_tick_26 (p1 : Int32) (Q : Int32 → pt_M → Prop)  : Nat → Int32 → Int32 → pt_M → Prop
  | 0 => fun _ _ _ => False
  | n + 1 => fun x2 x3 M => lbX7_tick_26 p1 Q (lpX7_tick_26 p1 Q n) x2 x3 M
def wpX7_tick (p1 : Int32) (M : pt_M) (Q : Int32 → pt_M → Prop) : Prop :=
  wpX7_checkRunning M (fun (M_1 : pt_M) => wpX7_isWithin p1 1 50 M_1 (fun (r_8 : Int32) (M_8 : pt_M) => (¬ r_8 = 0 → ∃ n : Nat, lpX7_tick_26 p1 Q n 0 0 M_8) ∧ (r_8 = 0 → False)))
set_option maxHeartbeats 4000000 in
set_option maxRecDepth 100000 in
theorem mtX7_tick (l : Launch) (D : va_G) (cA : Nat → ClassId) (ad : Nat → Nat) (hI : pt_I ad) (sz : Nat) (p1 : Int32) (M : pt_M) (Q : Int32 → pt_M → Prop) (hw : wpX7_tick p1 M Q) : Met l yX7_tick (Cond.code yX7_tick cX7_tick 4 (some .int) :: lw_all) ({ frames := 6, cells := 0, slots := 0, locals := 141 } : Room) (va_Pc [.ref (ad 0), .int p1] (pt_P D cA ad sz M)) (va_Qi Q (pt_B D cA ad) (pt_fr ad sz)) 0 0 (pt_fr ad sz) := by
  refine Met.ofW (cc := cX7_tick) (maxL := 4) (ret := (some .int)) (by decide) rfl ?_
  intro p e s m args below meth c s₁ B hml hv
  obtain ⟨rfl, hsz, hP, hK⟩ := hv
  have hx := B.exec
  have hb := B.bytes
  have hr := B.returns
  have hts0 := atoms_spec (ws := (Cond.code yX7_tick cX7_tick 4 (some .int) :: lw_all)) B.pre
  have hown : s.vm.findClass RX7 = some m.cls := findClass_of_methodNamed B.named
  have hlocks := B.notSynchronized
  subst hsz
  have F : pt_F p m c cX7_tick 4 s _ RX7 D cA := ⟨⟨hx, hb, hml, hown, fun w h => hts0 w (List.mem_cons_of_mem _ h)⟩, hK⟩
  have hD : ∀ M, va_D (pt_fr ad s.heap.size) (pt_W cA ad M) := pt_D hI (fun k h => Or.inl ⟨k, h, rfl⟩)
  have hS : va_S (pt_fr ad s.heap.size) s.heap s.heap [] := va_S.rf
  have hl := lv_entry ([.ref (ad 0), .int p1]) (n := 4) (Nat.le_of_ble_eq_true rfl)
  rw [lg_entry_eq]
  generalize (lg_sl ([.ref (ad 0), .int p1]) ++ List.replicate (4 - (lg_sl ([.ref (ad 0), .int p1])).length) Slot.unset).toArray = ls at hl ⊢
  have hl : lv_has ls 4 [(0, .ref (ad 0)), (1, .int p1)] := hl
  have L26 : ∀ (n26 : Nat) (x2 : Int32) (x3 : Int32) (M : pt_M) (H : Heap) (locs : List Loc) (ls : Array Slot), lpX7_tick_26 p1 Q n26 x2 x3 M → va_P D pt_cl (pt_W cA ad M) H → va_S (pt_fr ad s.heap.size) s.heap H locs → lv_has ls 4 [(0, .ref (ad 0)), (1, .int p1), (2, .int x2), (3, .int x3)] → W p l e (headSpec (Cond.code yX7_tick cX7_tick 4 (some .int) :: lw_all) ({ frames := 6, cells := 0, slots := 0, locals := 141 } : Room)).room s m ([.ref (ad 0), .int p1] : List Value).toArray below meth c H locs 0 0 (MQ below (va_Qi Q (pt_B D cA ad) (pt_fr ad s.heap.size)) ([.ref (ad 0), .int p1] : List Value).toArray s 0 0 (pt_fr ad s.heap.size)) (F0 m 26 ls []) := by
    intro n26
    induction n26 with
    | zero => intro x2 x3 M H locs ls hw; exact hw.elim
    | succ n26 ih26 =>
      intro x2 x3 M H locs ls hw hP hS hl
      replace hw : lbX7_tick_26 p1 Q (lpX7_tick_26 p1 Q n26) x2 x3 M := hw
      unfold lbX7_tick_26 at hw
      refine lv_iload_n hx hb dX7_tick_26 rfl (lv_at hl 3 rfl) ?_
      refine lv_iload_n hx hb dX7_tick_27 rfl (lv_at hl 1 rfl) ?_
      refine lv_icmp_ge (tgt := 49) hx hb dX7_tick_28 (by decide) (fun hc28 => ?_) (fun hc28 => ?_)
      · replace hw := hw.1 hc28
        refine lv_iload_n hx hb dX7_tick_49 rfl (lv_at hl 2 rfl) ?_
        exact W.iret (v := x2) hx hb hr (fun t ht hW => ⟨⟨x2, M, rfl, hw, by unfold pt_B; rw [ht]; exact hP⟩, hS.F ht⟩) hS.2.2 dX7_tick_50
      · replace hw := hw.2 hc28
        refine lv_iload_n hx hb dX7_tick_31 rfl (lv_at hl 2 rfl) ?_
        refine lv_aload_n hx hb dX7_tick_32 rfl (lv_at hl 0 rfl) ?_
        refine pt_get F hP (pt_c7 _ pt_k0) (pt_l7 pt_k0) inX7 rfl 1 (by decide) kw_371 rfl rfl dX7_tick_33 ?_
        refine lv_bipush (v := 10) hx hb dX7_tick_36 (by decide) ?_
        refine pt_calli (pt_runV (n := 1) (As := [.int 10]) (rest := [.int x2]) F hP (pt_c3 _ pt_k125) (pt_l3 pt_k125) rfl (mtX3_proceed l D cA ad hI _ 125 pt_k125 10 M _ hw) kw_747 kw_744 kw_57 kw_745 kw_746 ⟨by decide, by decide, by decide +kernel⟩ ⟨rfl, rfl, Nat.le_of_ble_eq_true rfl, Nat.le_of_ble_eq_true rfl⟩ rfl hl.1 rfl (Nat.le_of_ble_eq_true rfl) dX7_tick_38 ⟨Nat.zero_le _, Nat.zero_le _⟩) hS (fun _ h => h) (fun r_38 M_38 H locs hw hP hS _ _ => ?_)
        refine lv_iadd hx hb dX7_tick_41 ?_
        refine lv_topi (fun x2_42 ex2_42 => ?_)
        replace hw := hw x2_42 ex2_42
        refine lv_istore_n (lv' := [(2, .int x2_42), (0, .ref (ad 0)), (1, .int p1), (3, .int x3)]) hx hb dX7_tick_42 rfl hl (by decide) rfl (fun ls hl => ?_)
        obtain ⟨x3_43, ex3_43⟩ : ∃ y : Int32, y = x3 + 1 := ⟨_, rfl⟩
        replace hw := hw x3_43 ex3_43
        refine lv_iinc (v := x3_43) (lv' := [(3, .int x3_43), (2, .int x2_42), (0, .ref (ad 0)), (1, .int p1)]) hx hb dX7_tick_43 hl (k := 3) rfl (by rw [ex3_43]; rfl) (by decide) rfl (fun ls hl => ?_)
        refine lv_goto (tgt := 26) hx hb dX7_tick_46 (by decide) ?_
        exact ih26 x2_42 x3_43 M_38 _ _ _ hw hP hS (lv_sub hl [2, 3, 1, 0] rfl)
  unfold wpX7_tick at hw
  refine lv_aload_n hx hb dX7_tick_0 rfl (lv_at hl 0 rfl) ?_
  refine pt_callv (pt_runV (n := 0) (As := []) (rest := []) F hP (pt_c7 _ pt_k0) (pt_l7 pt_k0) rfl (mtX7_checkRunning l D cA ad hI _ M _ hw) kw_831 kw_828 kw_52 kw_830 kw_21 ⟨by decide, by decide, by decide +kernel⟩ ⟨rfl, rfl, Nat.le_of_ble_eq_true rfl, Nat.le_of_ble_eq_true rfl⟩ rfl hl.1 rfl (Nat.le_of_ble_eq_true rfl) dX7_tick_1 ⟨Nat.zero_le _, Nat.zero_le _⟩) hS (fun _ h => h) (fun M_1 H locs hw hP hS _ _ => ?_)
  refine lv_iload_n hx hb dX7_tick_4 rfl (lv_at hl 1 rfl) ?_
  refine lv_iconst (v := 1) hx hb dX7_tick_5 (by decide) ?_
  refine lv_bipush (v := 50) hx hb dX7_tick_6 (by decide) ?_
  refine pt_calli (pt_runS (n := 3) (As := [.int p1, .int 1, .int 50]) (rest := []) F hP (mtX7_isWithin l D cA ad hI _ p1 1 50 M_1 _ hw) kw_432 kw_430 kw_52 kw_431 ⟨by decide, by decide, by decide +kernel⟩ ⟨rfl, rfl, Nat.le_of_ble_eq_true rfl, Nat.le_of_ble_eq_true rfl⟩ rfl hl.1 rfl (Nat.le_of_ble_eq_true rfl) dX7_tick_8 ⟨Nat.zero_le _, Nat.zero_le _⟩) hS (fun _ h => h) (fun r_8 M_8 H locs hw hP hS _ _ => ?_)
  refine lv_if_ne (tgt := 22) hx hb dX7_tick_11 (by decide) (fun hc11 => ?_) (fun hc11 => ?_)
  · replace hw := hw.1 hc11
    refine lv_iconst (v := 0) hx hb dX7_tick_22 (by decide) ?_
    refine lv_istore_n (lv' := [(2, .int 0), (0, .ref (ad 0)), (1, .int p1)]) hx hb dX7_tick_23 rfl hl (by decide) rfl (fun ls hl => ?_)
    refine lv_iconst (v := 0) hx hb dX7_tick_24 (by decide) ?_
    refine lv_istore_n (lv' := [(3, .int 0), (2, .int 0), (0, .ref (ad 0)), (1, .int p1)]) hx hb dX7_tick_25 rfl hl (by decide) rfl (fun ls hl => ?_)
    obtain ⟨n_, hw⟩ := hw
    exact L26 n_ 0 0 M_8 _ _ _ hw hP hS (lv_sub hl [2, 3, 1, 0] rfl)
  · replace hw := hw.2 hc11
    exact hw.elim
-- ===== X7_states
def wpX7_states  (M : pt_M) (Q : Int32 → pt_M → Prop) : Prop :=
  Q (M 1 3) M
set_option maxHeartbeats 4000000 in
set_option maxRecDepth 100000 in
theorem mtX7_states (l : Launch) (D : va_G) (cA : Nat → ClassId) (ad : Nat → Nat) (hI : pt_I ad) (sz : Nat) (M : pt_M) (Q : Int32 → pt_M → Prop) (hw : wpX7_states M Q) : Met l yX7_states (Cond.code yX7_states cX7_states 1 (some .int) :: lw_all) ({ frames := 0, cells := 0, slots := 0, locals := 0 } : Room) (va_Pc [.ref (ad 0)] (pt_P D cA ad sz M)) (va_Qi Q (pt_B D cA ad) (pt_fr ad sz)) 0 0 (pt_fr ad sz) := by
  refine Met.ofW (cc := cX7_states) (maxL := 1) (ret := (some .int)) (by decide) rfl ?_
  intro p e s m args below meth c s₁ B hml hv
  obtain ⟨rfl, hsz, hP, hK⟩ := hv
  have hx := B.exec
  have hb := B.bytes
  have hr := B.returns
  have hts0 := atoms_spec (ws := (Cond.code yX7_states cX7_states 1 (some .int) :: lw_all)) B.pre
  have hown : s.vm.findClass RX7 = some m.cls := findClass_of_methodNamed B.named
  have hlocks := B.notSynchronized
  subst hsz
  have F : pt_F p m c cX7_states 1 s _ RX7 D cA := ⟨⟨hx, hb, hml, hown, fun w h => hts0 w (List.mem_cons_of_mem _ h)⟩, hK⟩
  have hD : ∀ M, va_D (pt_fr ad s.heap.size) (pt_W cA ad M) := pt_D hI (fun k h => Or.inl ⟨k, h, rfl⟩)
  have hS : va_S (pt_fr ad s.heap.size) s.heap s.heap [] := va_S.rf
  have hl := lv_entry ([.ref (ad 0)]) (n := 1) (Nat.le_of_ble_eq_true rfl)
  rw [lg_entry_eq]
  generalize (lg_sl ([.ref (ad 0)]) ++ List.replicate (1 - (lg_sl ([.ref (ad 0)])).length) Slot.unset).toArray = ls at hl ⊢
  have hl : lv_has ls 1 [(0, .ref (ad 0))] := hl
  unfold wpX7_states at hw
  refine lv_aload_n hx hb dX7_states_0 rfl (lv_at hl 0 rfl) ?_
  refine pt_get F hP (pt_c7 _ pt_k0) (pt_l7 pt_k0) inX7 rfl 0 (by decide) kw_370 rfl rfl dX7_states_1 ?_
  refine pt_get F hP (pt_c1 _ pt_k1) (pt_l1 pt_k1) inX1 rfl 3 (by decide) kw_231 rfl rfl dX7_states_4 ?_
  exact W.iret (v := (M 1 3)) hx hb hr (fun t ht hW => ⟨⟨(M 1 3), M, rfl, hw, by unfold pt_B; rw [ht]; exact hP⟩, hS.F ht⟩) hS.2.2 dX7_states_7
-- ===== X7_transitions
def wpX7_transitions  (M : pt_M) (Q : Int32 → pt_M → Prop) : Prop :=
  Q (M 1 4) M
set_option maxHeartbeats 4000000 in
set_option maxRecDepth 100000 in
theorem mtX7_transitions (l : Launch) (D : va_G) (cA : Nat → ClassId) (ad : Nat → Nat) (hI : pt_I ad) (sz : Nat) (M : pt_M) (Q : Int32 → pt_M → Prop) (hw : wpX7_transitions M Q) : Met l yX7_transitions (Cond.code yX7_transitions cX7_transitions 1 (some .int) :: lw_all) ({ frames := 0, cells := 0, slots := 0, locals := 0 } : Room) (va_Pc [.ref (ad 0)] (pt_P D cA ad sz M)) (va_Qi Q (pt_B D cA ad) (pt_fr ad sz)) 0 0 (pt_fr ad sz) := by
  refine Met.ofW (cc := cX7_transitions) (maxL := 1) (ret := (some .int)) (by decide) rfl ?_
  intro p e s m args below meth c s₁ B hml hv
  obtain ⟨rfl, hsz, hP, hK⟩ := hv
  have hx := B.exec
  have hb := B.bytes
  have hr := B.returns
  have hts0 := atoms_spec (ws := (Cond.code yX7_transitions cX7_transitions 1 (some .int) :: lw_all)) B.pre
  have hown : s.vm.findClass RX7 = some m.cls := findClass_of_methodNamed B.named
  have hlocks := B.notSynchronized
  subst hsz
  have F : pt_F p m c cX7_transitions 1 s _ RX7 D cA := ⟨⟨hx, hb, hml, hown, fun w h => hts0 w (List.mem_cons_of_mem _ h)⟩, hK⟩
  have hD : ∀ M, va_D (pt_fr ad s.heap.size) (pt_W cA ad M) := pt_D hI (fun k h => Or.inl ⟨k, h, rfl⟩)
  have hS : va_S (pt_fr ad s.heap.size) s.heap s.heap [] := va_S.rf
  have hl := lv_entry ([.ref (ad 0)]) (n := 1) (Nat.le_of_ble_eq_true rfl)
  rw [lg_entry_eq]
  generalize (lg_sl ([.ref (ad 0)]) ++ List.replicate (1 - (lg_sl ([.ref (ad 0)])).length) Slot.unset).toArray = ls at hl ⊢
  have hl : lv_has ls 1 [(0, .ref (ad 0))] := hl
  unfold wpX7_transitions at hw
  refine lv_aload_n hx hb dX7_transitions_0 rfl (lv_at hl 0 rfl) ?_
  refine pt_get F hP (pt_c7 _ pt_k0) (pt_l7 pt_k0) inX7 rfl 0 (by decide) kw_370 rfl rfl dX7_transitions_1 ?_
  refine pt_get F hP (pt_c1 _ pt_k1) (pt_l1 pt_k1) inX1 rfl 4 (by decide) kw_234 rfl rfl dX7_transitions_4 ?_
  exact W.iret (v := (M 1 4)) hx hb hr (fun t ht hW => ⟨⟨(M 1 4), M, rfl, hw, by unfold pt_B; rw [ht]; exact hP⟩, hS.F ht⟩) hS.2.2 dX7_transitions_7
-- ===== X7_ofState
def wpX7_ofState (p1 : Int32) (p2 : Int32) (M : pt_M) (Q : Int32 → pt_M → Prop) : Prop :=
  wpX7_checkState p1 M (fun (M_2 : pt_M) => vp_in p1 20 ∧ ((p2 = 0 → Q (M_2 (pt_s p1) 2) M_2) ∧ (¬ p2 = 0 → (p2 = 1 → Q (M_2 (pt_s p1) 3) M_2) ∧ (¬ p2 = 1 → (p2 = 2 → Q (M_2 (pt_s p1) 4) M_2) ∧ (¬ p2 = 2 → (p2 = 3 → wpJ6_bitCount_0f7a4 (M_2 (pt_s p1) 5) M_2 (fun (r_67 : Int32) (M_67 : pt_M) => Q r_67 M_67)) ∧ (¬ p2 = 3 → False))))))
set_option maxHeartbeats 4000000 in
set_option maxRecDepth 100000 in
theorem mtX7_ofState (l : Launch) (D : va_G) (cA : Nat → ClassId) (ad : Nat → Nat) (hI : pt_I ad) (sz : Nat) (p1 : Int32) (p2 : Int32) (M : pt_M) (Q : Int32 → pt_M → Prop) (hw : wpX7_ofState p1 p2 M Q) : Met l yX7_ofState (Cond.code yX7_ofState cX7_ofState 4 (some .int) :: lw_all) ({ frames := 2, cells := 0, slots := 0, locals := 43 } : Room) (va_Pc [.ref (ad 0), .int p1, .int p2] (pt_P D cA ad sz M)) (va_Qi Q (pt_B D cA ad) (pt_fr ad sz)) 0 0 (pt_fr ad sz) := by
  refine Met.ofW (cc := cX7_ofState) (maxL := 4) (ret := (some .int)) (by decide) rfl ?_
  intro p e s m args below meth c s₁ B hml hv
  obtain ⟨rfl, hsz, hP, hK⟩ := hv
  have hx := B.exec
  have hb := B.bytes
  have hr := B.returns
  have hts0 := atoms_spec (ws := (Cond.code yX7_ofState cX7_ofState 4 (some .int) :: lw_all)) B.pre
  have hown : s.vm.findClass RX7 = some m.cls := findClass_of_methodNamed B.named
  have hlocks := B.notSynchronized
  subst hsz
  have F : pt_F p m c cX7_ofState 4 s _ RX7 D cA := ⟨⟨hx, hb, hml, hown, fun w h => hts0 w (List.mem_cons_of_mem _ h)⟩, hK⟩
  have hD : ∀ M, va_D (pt_fr ad s.heap.size) (pt_W cA ad M) := pt_D hI (fun k h => Or.inl ⟨k, h, rfl⟩)
  have hS : va_S (pt_fr ad s.heap.size) s.heap s.heap [] := va_S.rf
  have hl := lv_entry ([.ref (ad 0), .int p1, .int p2]) (n := 4) (Nat.le_of_ble_eq_true rfl)
  rw [lg_entry_eq]
  generalize (lg_sl ([.ref (ad 0), .int p1, .int p2]) ++ List.replicate (4 - (lg_sl ([.ref (ad 0), .int p1, .int p2])).length) Slot.unset).toArray = ls at hl ⊢
  have hl : lv_has ls 4 [(0, .ref (ad 0)), (1, .int p1), (2, .int p2)] := hl
  unfold wpX7_ofState at hw
  refine lv_aload_n hx hb dX7_ofState_0 rfl (lv_at hl 0 rfl) ?_
  refine lv_iload_n hx hb dX7_ofState_1 rfl (lv_at hl 1 rfl) ?_
  refine pt_callv (pt_runV (n := 1) (As := [.int p1]) (rest := []) F hP (pt_c7 _ pt_k0) (pt_l7 pt_k0) rfl (mtX7_checkState l D cA ad hI _ p1 M _ hw) kw_481 kw_478 kw_52 kw_480 kw_1 ⟨by decide, by decide, by decide +kernel⟩ ⟨rfl, rfl, Nat.le_of_ble_eq_true rfl, Nat.le_of_ble_eq_true rfl⟩ rfl hl.1 rfl (Nat.le_of_ble_eq_true rfl) dX7_ofState_2 ⟨Nat.zero_le _, Nat.zero_le _⟩) hS (fun _ h => h) (fun M_2 H locs hw hP hS _ _ => ?_)
  refine lv_aload_n hx hb dX7_ofState_5 rfl (lv_at hl 0 rfl) ?_
  refine pt_get F hP (pt_c7 _ pt_k0) (pt_l7 pt_k0) inX7 rfl 0 (by decide) kw_370 rfl rfl dX7_ofState_6 ?_
  refine pt_get F hP (pt_c1 _ pt_k1) (pt_l1 pt_k1) inX1 rfl 0 (by decide) kw_223 rfl rfl dX7_ofState_9 ?_
  refine lv_iload_n hx hb dX7_ofState_12 rfl (lv_at hl 1 rfl) ?_
  have hv13 := hw.1
  replace hw := hw.2
  refine pt_alds F hP hv13 dX7_ofState_13 ?_
  refine lv_astore_n (lv' := [(3, .ref (ad (pt_s p1))), (0, .ref (ad 0)), (1, .int p1), (2, .int p2)]) hx hb dX7_ofState_14 rfl hl (by decide) rfl (fun ls hl => ?_)
  refine lv_iload_n hx hb dX7_ofState_15 rfl (lv_at hl 3 rfl) ?_
  by_cases hn16_0 : p2 = 0
  · replace hw := hw.1 hn16_0
    refine lv_tableIn (off := 32) (tgt := 48) hx hb dX7_ofState_16 (by rw [hn16_0]; decide) (by rw [hn16_0]; decide) (by rw [hn16_0]; rfl) (by decide) ?_
    refine lv_aload_n hx hb dX7_ofState_48 rfl (lv_at hl 0 rfl) ?_
    refine pt_get F hP (pt_c5 _ (pt_ks hv13)) (pt_l5 (pt_ks hv13)) inX5 rfl 2 (by decide) kw_137 rfl rfl dX7_ofState_49 ?_
    exact W.iret (v := (M_2 (pt_s p1) 2)) hx hb hr (fun t ht hW => ⟨⟨(M_2 (pt_s p1) 2), M_2, rfl, hw, by unfold pt_B; rw [ht]; exact hP⟩, hS.F ht⟩) hS.2.2 dX7_ofState_52
  · replace hw := hw.2 hn16_0
    by_cases hn16_1 : p2 = 1
    · replace hw := hw.1 hn16_1
      refine lv_tableIn (off := 37) (tgt := 53) hx hb dX7_ofState_16 (by rw [hn16_1]; decide) (by rw [hn16_1]; decide) (by rw [hn16_1]; rfl) (by decide) ?_
      refine lv_aload_n hx hb dX7_ofState_53 rfl (lv_at hl 0 rfl) ?_
      refine pt_get F hP (pt_c5 _ (pt_ks hv13)) (pt_l5 (pt_ks hv13)) inX5 rfl 3 (by decide) kw_141 rfl rfl dX7_ofState_54 ?_
      exact W.iret (v := (M_2 (pt_s p1) 3)) hx hb hr (fun t ht hW => ⟨⟨(M_2 (pt_s p1) 3), M_2, rfl, hw, by unfold pt_B; rw [ht]; exact hP⟩, hS.F ht⟩) hS.2.2 dX7_ofState_57
    · replace hw := hw.2 hn16_1
      by_cases hn16_2 : p2 = 2
      · replace hw := hw.1 hn16_2
        refine lv_tableIn (off := 42) (tgt := 58) hx hb dX7_ofState_16 (by rw [hn16_2]; decide) (by rw [hn16_2]; decide) (by rw [hn16_2]; rfl) (by decide) ?_
        refine lv_aload_n hx hb dX7_ofState_58 rfl (lv_at hl 0 rfl) ?_
        refine pt_get F hP (pt_c5 _ (pt_ks hv13)) (pt_l5 (pt_ks hv13)) inX5 rfl 4 (by decide) kw_144 rfl rfl dX7_ofState_59 ?_
        exact W.iret (v := (M_2 (pt_s p1) 4)) hx hb hr (fun t ht hW => ⟨⟨(M_2 (pt_s p1) 4), M_2, rfl, hw, by unfold pt_B; rw [ht]; exact hP⟩, hS.F ht⟩) hS.2.2 dX7_ofState_62
      · replace hw := hw.2 hn16_2
        by_cases hn16_3 : p2 = 3
        · replace hw := hw.1 hn16_3
          refine lv_tableIn (off := 47) (tgt := 63) hx hb dX7_ofState_16 (by rw [hn16_3]; decide) (by rw [hn16_3]; decide) (by rw [hn16_3]; rfl) (by decide) ?_
          refine lv_aload_n hx hb dX7_ofState_63 rfl (lv_at hl 0 rfl) ?_
          refine pt_get F hP (pt_c5 _ (pt_ks hv13)) (pt_l5 (pt_ks hv13)) inX5 rfl 5 (by decide) kw_146 rfl rfl dX7_ofState_64 ?_
          refine pt_calli (pt_runS (n := 1) (As := [.int (M_2 (pt_s p1) 5)]) (rest := []) F hP (mtJ6_bitCount_0f7a4 l D cA ad hI _ (M_2 (pt_s p1) 5) M_2 _ hw) kw_443 kw_441 kw_80 kw_442 ⟨by decide, by decide, by decide +kernel⟩ ⟨rfl, rfl, Nat.le_of_ble_eq_true rfl, Nat.le_of_ble_eq_true rfl⟩ rfl hl.1 rfl (Nat.le_of_ble_eq_true rfl) dX7_ofState_67 ⟨Nat.zero_le _, Nat.zero_le _⟩) hS (fun _ h => h) (fun r_67 M_67 H locs hw hP hS _ _ => ?_)
          exact W.iret (v := r_67) hx hb hr (fun t ht hW => ⟨⟨r_67, M_67, rfl, hw, by unfold pt_B; rw [ht]; exact hP⟩, hS.F ht⟩) hS.2.2 dX7_ofState_70
        · replace hw := hw.2 hn16_3
          refine lv_tableOut (tgt := 71) hx hb dX7_ofState_16 (pt_out03 hn16_0 hn16_1 hn16_2 hn16_3) (by decide) ?_
          exact hw.elim
-- ===== X7_isRunning
def wpX7_isRunning  (M : pt_M) (Q : Int32 → pt_M → Prop) : Prop :=
  pt_zb (M 0 4) ∧ Q (M 0 4) M
set_option maxHeartbeats 4000000 in
set_option maxRecDepth 100000 in
theorem mtX7_isRunning (l : Launch) (D : va_G) (cA : Nat → ClassId) (ad : Nat → Nat) (hI : pt_I ad) (sz : Nat) (M : pt_M) (Q : Int32 → pt_M → Prop) (hw : wpX7_isRunning M Q) : Met l yX7_isRunning (Cond.code yX7_isRunning cX7_isRunning 1 (some .boolean) :: lw_all) ({ frames := 0, cells := 0, slots := 0, locals := 0 } : Room) (va_Pc [.ref (ad 0)] (pt_P D cA ad sz M)) (va_Qi Q (pt_B D cA ad) (pt_fr ad sz)) 0 0 (pt_fr ad sz) := by
  refine Met.ofW (cc := cX7_isRunning) (maxL := 1) (ret := (some .boolean)) (by decide) rfl ?_
  intro p e s m args below meth c s₁ B hml hv
  obtain ⟨rfl, hsz, hP, hK⟩ := hv
  have hx := B.exec
  have hb := B.bytes
  have hr := B.returns
  have hts0 := atoms_spec (ws := (Cond.code yX7_isRunning cX7_isRunning 1 (some .boolean) :: lw_all)) B.pre
  have hown : s.vm.findClass RX7 = some m.cls := findClass_of_methodNamed B.named
  have hlocks := B.notSynchronized
  subst hsz
  have F : pt_F p m c cX7_isRunning 1 s _ RX7 D cA := ⟨⟨hx, hb, hml, hown, fun w h => hts0 w (List.mem_cons_of_mem _ h)⟩, hK⟩
  have hD : ∀ M, va_D (pt_fr ad s.heap.size) (pt_W cA ad M) := pt_D hI (fun k h => Or.inl ⟨k, h, rfl⟩)
  have hS : va_S (pt_fr ad s.heap.size) s.heap s.heap [] := va_S.rf
  have hl := lv_entry ([.ref (ad 0)]) (n := 1) (Nat.le_of_ble_eq_true rfl)
  rw [lg_entry_eq]
  generalize (lg_sl ([.ref (ad 0)]) ++ List.replicate (1 - (lg_sl ([.ref (ad 0)])).length) Slot.unset).toArray = ls at hl ⊢
  have hl : lv_has ls 1 [(0, .ref (ad 0))] := hl
  unfold wpX7_isRunning at hw
  refine lv_aload_n hx hb dX7_isRunning_0 rfl (lv_at hl 0 rfl) ?_
  refine pt_get F hP (pt_c7 _ pt_k0) (pt_l7 pt_k0) inX7 rfl 4 (by decide) kw_374 rfl rfl dX7_isRunning_1 ?_
  exact W.zret (v := (M 0 4)) (ty := .boolean) hx hb hr (pt_zb_n hw.1) (fun t ht hW => ⟨⟨(M 0 4), M, rfl, hw.2, by unfold pt_B; rw [ht]; exact hP⟩, hS.F ht⟩) hS.2.2 dX7_isRunning_4
-- ===== X7_active
def wpX7_active  (M : pt_M) (Q : Int32 → pt_M → Prop) : Prop :=
  Q (M (125 + 1) 3) M
set_option maxHeartbeats 4000000 in
set_option maxRecDepth 100000 in
theorem mtX7_active (l : Launch) (D : va_G) (cA : Nat → ClassId) (ad : Nat → Nat) (hI : pt_I ad) (sz : Nat) (M : pt_M) (Q : Int32 → pt_M → Prop) (hw : wpX7_active M Q) : Met l yX7_active (Cond.code yX7_active cX7_active 1 (some .int) :: lw_all) ({ frames := 0, cells := 0, slots := 0, locals := 0 } : Room) (va_Pc [.ref (ad 0)] (pt_P D cA ad sz M)) (va_Qi Q (pt_B D cA ad) (pt_fr ad sz)) 0 0 (pt_fr ad sz) := by
  refine Met.ofW (cc := cX7_active) (maxL := 1) (ret := (some .int)) (by decide) rfl ?_
  intro p e s m args below meth c s₁ B hml hv
  obtain ⟨rfl, hsz, hP, hK⟩ := hv
  have hx := B.exec
  have hb := B.bytes
  have hr := B.returns
  have hts0 := atoms_spec (ws := (Cond.code yX7_active cX7_active 1 (some .int) :: lw_all)) B.pre
  have hown : s.vm.findClass RX7 = some m.cls := findClass_of_methodNamed B.named
  have hlocks := B.notSynchronized
  subst hsz
  have F : pt_F p m c cX7_active 1 s _ RX7 D cA := ⟨⟨hx, hb, hml, hown, fun w h => hts0 w (List.mem_cons_of_mem _ h)⟩, hK⟩
  have hD : ∀ M, va_D (pt_fr ad s.heap.size) (pt_W cA ad M) := pt_D hI (fun k h => Or.inl ⟨k, h, rfl⟩)
  have hS : va_S (pt_fr ad s.heap.size) s.heap s.heap [] := va_S.rf
  have hl := lv_entry ([.ref (ad 0)]) (n := 1) (Nat.le_of_ble_eq_true rfl)
  rw [lg_entry_eq]
  generalize (lg_sl ([.ref (ad 0)]) ++ List.replicate (1 - (lg_sl ([.ref (ad 0)])).length) Slot.unset).toArray = ls at hl ⊢
  have hl : lv_has ls 1 [(0, .ref (ad 0))] := hl
  unfold wpX7_active at hw
  refine lv_aload_n hx hb dX7_active_0 rfl (lv_at hl 0 rfl) ?_
  refine pt_get F hP (pt_c7 _ pt_k0) (pt_l7 pt_k0) inX7 rfl 1 (by decide) kw_371 rfl rfl dX7_active_1 ?_
  refine pt_get F hP (pt_c3 _ pt_k125) (pt_l3 pt_k125) inX3 rfl 1 (by decide) kw_292 rfl rfl dX7_active_4 ?_
  refine pt_get F hP (pt_c4 _ (pt_3s pt_k125)) (pt_l4 (pt_3s pt_k125)) inX4 rfl 3 (by decide) kw_279 rfl rfl dX7_active_7 ?_
  exact W.iret (v := (M (125 + 1) 3)) hx hb hr (fun t ht hW => ⟨⟨(M (125 + 1) 3), M, rfl, hw, by unfold pt_B; rw [ht]; exact hP⟩, hS.F ht⟩) hS.2.2 dX7_active_10
-- ===== X7_isOver
def wjX7_isOver_22  (Q : Int32 → pt_M → Prop)  (xs0 : Int32) (M : pt_M) : Prop :=
  pt_zb xs0 ∧ Q xs0 M
def wjX7_isOver_21  (Q : Int32 → pt_M → Prop)   (M : pt_M) : Prop :=
  wjX7_isOver_22 Q 0 M
def wpX7_isOver  (M : pt_M) (Q : Int32 → pt_M → Prop) : Prop :=
  ((M 0 4) = 0 → wjX7_isOver_21 Q M) ∧ (¬ (M 0 4) = 0 → wpX3_isAtEnd 125 M (fun (r_11 : Int32) (M_11 : pt_M) => (r_11 = 0 → wjX7_isOver_21 Q M_11) ∧ (¬ r_11 = 0 → wjX7_isOver_22 Q 1 M_11)))
set_option maxHeartbeats 4000000 in
set_option maxRecDepth 100000 in
theorem mtX7_isOver (l : Launch) (D : va_G) (cA : Nat → ClassId) (ad : Nat → Nat) (hI : pt_I ad) (sz : Nat) (M : pt_M) (Q : Int32 → pt_M → Prop) (hw : wpX7_isOver M Q) : Met l yX7_isOver (Cond.code yX7_isOver cX7_isOver 1 (some .boolean) :: lw_all) ({ frames := 1, cells := 0, slots := 0, locals := 20 } : Room) (va_Pc [.ref (ad 0)] (pt_P D cA ad sz M)) (va_Qi Q (pt_B D cA ad) (pt_fr ad sz)) 0 0 (pt_fr ad sz) := by
  refine Met.ofW (cc := cX7_isOver) (maxL := 1) (ret := (some .boolean)) (by decide) rfl ?_
  intro p e s m args below meth c s₁ B hml hv
  obtain ⟨rfl, hsz, hP, hK⟩ := hv
  have hx := B.exec
  have hb := B.bytes
  have hr := B.returns
  have hts0 := atoms_spec (ws := (Cond.code yX7_isOver cX7_isOver 1 (some .boolean) :: lw_all)) B.pre
  have hown : s.vm.findClass RX7 = some m.cls := findClass_of_methodNamed B.named
  have hlocks := B.notSynchronized
  subst hsz
  have F : pt_F p m c cX7_isOver 1 s _ RX7 D cA := ⟨⟨hx, hb, hml, hown, fun w h => hts0 w (List.mem_cons_of_mem _ h)⟩, hK⟩
  have hD : ∀ M, va_D (pt_fr ad s.heap.size) (pt_W cA ad M) := pt_D hI (fun k h => Or.inl ⟨k, h, rfl⟩)
  have hS : va_S (pt_fr ad s.heap.size) s.heap s.heap [] := va_S.rf
  have hl := lv_entry ([.ref (ad 0)]) (n := 1) (Nat.le_of_ble_eq_true rfl)
  rw [lg_entry_eq]
  generalize (lg_sl ([.ref (ad 0)]) ++ List.replicate (1 - (lg_sl ([.ref (ad 0)])).length) Slot.unset).toArray = ls at hl ⊢
  have hl : lv_has ls 1 [(0, .ref (ad 0))] := hl
  have J22 : ∀ (xs0 : Int32) (M : pt_M) (H : Heap) (locs : List Loc) (ls : Array Slot), wjX7_isOver_22 Q xs0 M → va_P D pt_cl (pt_W cA ad M) H → va_S (pt_fr ad s.heap.size) s.heap H locs → lv_has ls 1 [] → W p l e (headSpec (Cond.code yX7_isOver cX7_isOver 1 (some .boolean) :: lw_all) ({ frames := 1, cells := 0, slots := 0, locals := 20 } : Room)).room s m ([.ref (ad 0)] : List Value).toArray below meth c H locs 0 0 (MQ below (va_Qi Q (pt_B D cA ad) (pt_fr ad s.heap.size)) ([.ref (ad 0)] : List Value).toArray s 0 0 (pt_fr ad s.heap.size)) (F0 m 22 ls [.int xs0]) := by
    intro xs0 M H locs ls hw hP hS hl
    unfold wjX7_isOver_22 at hw
    exact W.zret (v := xs0) (ty := .boolean) hx hb hr (pt_zb_n hw.1) (fun t ht hW => ⟨⟨xs0, M, rfl, hw.2, by unfold pt_B; rw [ht]; exact hP⟩, hS.F ht⟩) hS.2.2 dX7_isOver_22
  have J21 : ∀ (M : pt_M) (H : Heap) (locs : List Loc) (ls : Array Slot), wjX7_isOver_21 Q M → va_P D pt_cl (pt_W cA ad M) H → va_S (pt_fr ad s.heap.size) s.heap H locs → lv_has ls 1 [] → W p l e (headSpec (Cond.code yX7_isOver cX7_isOver 1 (some .boolean) :: lw_all) ({ frames := 1, cells := 0, slots := 0, locals := 20 } : Room)).room s m ([.ref (ad 0)] : List Value).toArray below meth c H locs 0 0 (MQ below (va_Qi Q (pt_B D cA ad) (pt_fr ad s.heap.size)) ([.ref (ad 0)] : List Value).toArray s 0 0 (pt_fr ad s.heap.size)) (F0 m 21 ls []) := by
    intro M H locs ls hw hP hS hl
    unfold wjX7_isOver_21 at hw
    refine lv_iconst (v := 0) hx hb dX7_isOver_21 (by decide) ?_
    exact J22 0 M _ _ _ hw hP hS (lv_sub hl [] rfl)
  unfold wpX7_isOver at hw
  refine lv_aload_n hx hb dX7_isOver_0 rfl (lv_at hl 0 rfl) ?_
  refine pt_get F hP (pt_c7 _ pt_k0) (pt_l7 pt_k0) inX7 rfl 4 (by decide) kw_374 rfl rfl dX7_isOver_1 ?_
  refine lv_if_eq (tgt := 21) hx hb dX7_isOver_4 (by decide) (fun hc4 => ?_) (fun hc4 => ?_)
  · replace hw := hw.1 hc4
    exact J21 M _ _ _ hw hP hS (lv_sub hl [] rfl)
  · replace hw := hw.2 hc4
    refine lv_aload_n hx hb dX7_isOver_7 rfl (lv_at hl 0 rfl) ?_
    refine pt_get F hP (pt_c7 _ pt_k0) (pt_l7 pt_k0) inX7 rfl 1 (by decide) kw_371 rfl rfl dX7_isOver_8 ?_
    refine pt_calli (pt_runV (n := 0) (As := []) (rest := []) F hP (pt_c3 _ pt_k125) (pt_l3 pt_k125) rfl (mtX3_isAtEnd l D cA ad hI _ 125 pt_k125 M _ hw) kw_409 kw_406 kw_57 kw_407 kw_408 ⟨by decide, by decide, by decide +kernel⟩ ⟨rfl, rfl, Nat.le_of_ble_eq_true rfl, Nat.le_of_ble_eq_true rfl⟩ rfl hl.1 rfl (Nat.le_of_ble_eq_true rfl) dX7_isOver_11 ⟨Nat.zero_le _, Nat.zero_le _⟩) hS (fun _ h => h) (fun r_11 M_11 H locs hw hP hS _ _ => ?_)
    refine lv_if_eq (tgt := 21) hx hb dX7_isOver_14 (by decide) (fun hc14 => ?_) (fun hc14 => ?_)
    · replace hw := hw.1 hc14
      exact J21 M_11 _ _ _ hw hP hS (lv_sub hl [] rfl)
    · replace hw := hw.2 hc14
      refine lv_iconst (v := 1) hx hb dX7_isOver_17 (by decide) ?_
      refine lv_goto (tgt := 22) hx hb dX7_isOver_18 (by decide) ?_
      exact J22 1 M_11 _ _ _ hw hP hS (lv_sub hl [] rfl)
-- ===== X7_isEnded
def wpX7_isEnded (p1 : Int32) (M : pt_M) (Q : Int32 → pt_M → Prop) : Prop :=
  wpX7_checkState p1 M (fun (M_2 : pt_M) => wpX1_endedAmong (M_2 (125 + 1) 3) M_2 (fun (r_19 : Int32) (M_19 : pt_M) => wpX7_has r_19 p1 M_19 (fun (r_23 : Int32) (M_23 : pt_M) => pt_zb r_23 ∧ Q r_23 M_23)))
set_option maxHeartbeats 4000000 in
set_option maxRecDepth 100000 in
theorem mtX7_isEnded (l : Launch) (D : va_G) (cA : Nat → ClassId) (ad : Nat → Nat) (hI : pt_I ad) (sz : Nat) (p1 : Int32) (M : pt_M) (Q : Int32 → pt_M → Prop) (hw : wpX7_isEnded p1 M Q) : Met l yX7_isEnded (Cond.code yX7_isEnded cX7_isEnded 2 (some .boolean) :: lw_all) ({ frames := 2, cells := 0, slots := 0, locals := 46 } : Room) (va_Pc [.ref (ad 0), .int p1] (pt_P D cA ad sz M)) (va_Qi Q (pt_B D cA ad) (pt_fr ad sz)) 0 0 (pt_fr ad sz) := by
  refine Met.ofW (cc := cX7_isEnded) (maxL := 2) (ret := (some .boolean)) (by decide) rfl ?_
  intro p e s m args below meth c s₁ B hml hv
  obtain ⟨rfl, hsz, hP, hK⟩ := hv
  have hx := B.exec
  have hb := B.bytes
  have hr := B.returns
  have hts0 := atoms_spec (ws := (Cond.code yX7_isEnded cX7_isEnded 2 (some .boolean) :: lw_all)) B.pre
  have hown : s.vm.findClass RX7 = some m.cls := findClass_of_methodNamed B.named
  have hlocks := B.notSynchronized
  subst hsz
  have F : pt_F p m c cX7_isEnded 2 s _ RX7 D cA := ⟨⟨hx, hb, hml, hown, fun w h => hts0 w (List.mem_cons_of_mem _ h)⟩, hK⟩
  have hD : ∀ M, va_D (pt_fr ad s.heap.size) (pt_W cA ad M) := pt_D hI (fun k h => Or.inl ⟨k, h, rfl⟩)
  have hS : va_S (pt_fr ad s.heap.size) s.heap s.heap [] := va_S.rf
  have hl := lv_entry ([.ref (ad 0), .int p1]) (n := 2) (Nat.le_of_ble_eq_true rfl)
  rw [lg_entry_eq]
  generalize (lg_sl ([.ref (ad 0), .int p1]) ++ List.replicate (2 - (lg_sl ([.ref (ad 0), .int p1])).length) Slot.unset).toArray = ls at hl ⊢
  have hl : lv_has ls 2 [(0, .ref (ad 0)), (1, .int p1)] := hl
  unfold wpX7_isEnded at hw
  refine lv_aload_n hx hb dX7_isEnded_0 rfl (lv_at hl 0 rfl) ?_
  refine lv_iload_n hx hb dX7_isEnded_1 rfl (lv_at hl 1 rfl) ?_
  refine pt_callv (pt_runV (n := 1) (As := [.int p1]) (rest := []) F hP (pt_c7 _ pt_k0) (pt_l7 pt_k0) rfl (mtX7_checkState l D cA ad hI _ p1 M _ hw) kw_481 kw_478 kw_52 kw_480 kw_1 ⟨by decide, by decide, by decide +kernel⟩ ⟨rfl, rfl, Nat.le_of_ble_eq_true rfl, Nat.le_of_ble_eq_true rfl⟩ rfl hl.1 rfl (Nat.le_of_ble_eq_true rfl) dX7_isEnded_2 ⟨Nat.zero_le _, Nat.zero_le _⟩) hS (fun _ h => h) (fun M_2 H locs hw hP hS _ _ => ?_)
  refine lv_aload_n hx hb dX7_isEnded_5 rfl (lv_at hl 0 rfl) ?_
  refine pt_get F hP (pt_c7 _ pt_k0) (pt_l7 pt_k0) inX7 rfl 0 (by decide) kw_370 rfl rfl dX7_isEnded_6 ?_
  refine lv_aload_n hx hb dX7_isEnded_9 rfl (lv_at hl 0 rfl) ?_
  refine pt_get F hP (pt_c7 _ pt_k0) (pt_l7 pt_k0) inX7 rfl 1 (by decide) kw_371 rfl rfl dX7_isEnded_10 ?_
  refine pt_get F hP (pt_c3 _ pt_k125) (pt_l3 pt_k125) inX3 rfl 1 (by decide) kw_292 rfl rfl dX7_isEnded_13 ?_
  refine pt_get F hP (pt_c4 _ (pt_3s pt_k125)) (pt_l4 (pt_3s pt_k125)) inX4 rfl 3 (by decide) kw_279 rfl rfl dX7_isEnded_16 ?_
  refine pt_calli (pt_runV (n := 1) (As := [.int (M_2 (125 + 1) 3)]) (rest := []) F hP (pt_c1 _ pt_k1) (pt_l1 pt_k1) rfl (mtX1_endedAmong l D cA ad hI _ (M_2 (125 + 1) 3) M_2 _ hw) kw_473 kw_470 kw_53 kw_471 kw_472 ⟨by decide, by decide, by decide +kernel⟩ ⟨rfl, rfl, Nat.le_of_ble_eq_true rfl, Nat.le_of_ble_eq_true rfl⟩ rfl hl.1 rfl (Nat.le_of_ble_eq_true rfl) dX7_isEnded_19 ⟨Nat.zero_le _, Nat.zero_le _⟩) hS (fun _ h => h) (fun r_19 M_19 H locs hw hP hS _ _ => ?_)
  refine lv_iload_n hx hb dX7_isEnded_22 rfl (lv_at hl 1 rfl) ?_
  refine pt_calli (pt_runS (n := 2) (As := [.int r_19, .int p1]) (rest := []) F hP (mtX7_has l D cA ad hI _ r_19 p1 M_19 _ hw) kw_449 kw_447 kw_52 kw_448 ⟨by decide, by decide, by decide +kernel⟩ ⟨rfl, rfl, Nat.le_of_ble_eq_true rfl, Nat.le_of_ble_eq_true rfl⟩ rfl hl.1 rfl (Nat.le_of_ble_eq_true rfl) dX7_isEnded_23 ⟨Nat.zero_le _, Nat.zero_le _⟩) hS (fun _ h => h) (fun r_23 M_23 H locs hw hP hS _ _ => ?_)
  exact W.zret (v := r_23) (ty := .boolean) hx hb hr (pt_zb_n hw.1) (fun t ht hW => ⟨⟨r_23, M_23, rfl, hw.2, by unfold pt_B; rw [ht]; exact hP⟩, hS.F ht⟩) hS.2.2 dX7_isEnded_26
-- ===== X7_ageOf
def wpX7_ageOf (p1 : Int32) (M : pt_M) (Q : Int32 → pt_M → Prop) : Prop :=
  wpX7_checkState p1 M (fun (M_2 : pt_M) => vp_in p1 20 ∧ (Q (M_2 ((125 + 1) + 1) (Int32.toNatClampNeg p1)) M_2))
set_option maxHeartbeats 4000000 in
set_option maxRecDepth 100000 in
theorem mtX7_ageOf (l : Launch) (D : va_G) (cA : Nat → ClassId) (ad : Nat → Nat) (hI : pt_I ad) (sz : Nat) (p1 : Int32) (M : pt_M) (Q : Int32 → pt_M → Prop) (hw : wpX7_ageOf p1 M Q) : Met l yX7_ageOf (Cond.code yX7_ageOf cX7_ageOf 2 (some .int) :: lw_all) ({ frames := 2, cells := 0, slots := 0, locals := 43 } : Room) (va_Pc [.ref (ad 0), .int p1] (pt_P D cA ad sz M)) (va_Qi Q (pt_B D cA ad) (pt_fr ad sz)) 0 0 (pt_fr ad sz) := by
  refine Met.ofW (cc := cX7_ageOf) (maxL := 2) (ret := (some .int)) (by decide) rfl ?_
  intro p e s m args below meth c s₁ B hml hv
  obtain ⟨rfl, hsz, hP, hK⟩ := hv
  have hx := B.exec
  have hb := B.bytes
  have hr := B.returns
  have hts0 := atoms_spec (ws := (Cond.code yX7_ageOf cX7_ageOf 2 (some .int) :: lw_all)) B.pre
  have hown : s.vm.findClass RX7 = some m.cls := findClass_of_methodNamed B.named
  have hlocks := B.notSynchronized
  subst hsz
  have F : pt_F p m c cX7_ageOf 2 s _ RX7 D cA := ⟨⟨hx, hb, hml, hown, fun w h => hts0 w (List.mem_cons_of_mem _ h)⟩, hK⟩
  have hD : ∀ M, va_D (pt_fr ad s.heap.size) (pt_W cA ad M) := pt_D hI (fun k h => Or.inl ⟨k, h, rfl⟩)
  have hS : va_S (pt_fr ad s.heap.size) s.heap s.heap [] := va_S.rf
  have hl := lv_entry ([.ref (ad 0), .int p1]) (n := 2) (Nat.le_of_ble_eq_true rfl)
  rw [lg_entry_eq]
  generalize (lg_sl ([.ref (ad 0), .int p1]) ++ List.replicate (2 - (lg_sl ([.ref (ad 0), .int p1])).length) Slot.unset).toArray = ls at hl ⊢
  have hl : lv_has ls 2 [(0, .ref (ad 0)), (1, .int p1)] := hl
  unfold wpX7_ageOf at hw
  refine lv_aload_n hx hb dX7_ageOf_0 rfl (lv_at hl 0 rfl) ?_
  refine lv_iload_n hx hb dX7_ageOf_1 rfl (lv_at hl 1 rfl) ?_
  refine pt_callv (pt_runV (n := 1) (As := [.int p1]) (rest := []) F hP (pt_c7 _ pt_k0) (pt_l7 pt_k0) rfl (mtX7_checkState l D cA ad hI _ p1 M _ hw) kw_481 kw_478 kw_52 kw_480 kw_1 ⟨by decide, by decide, by decide +kernel⟩ ⟨rfl, rfl, Nat.le_of_ble_eq_true rfl, Nat.le_of_ble_eq_true rfl⟩ rfl hl.1 rfl (Nat.le_of_ble_eq_true rfl) dX7_ageOf_2 ⟨Nat.zero_le _, Nat.zero_le _⟩) hS (fun _ h => h) (fun M_2 H locs hw hP hS _ _ => ?_)
  refine lv_aload_n hx hb dX7_ageOf_5 rfl (lv_at hl 0 rfl) ?_
  refine pt_get F hP (pt_c7 _ pt_k0) (pt_l7 pt_k0) inX7 rfl 1 (by decide) kw_371 rfl rfl dX7_ageOf_6 ?_
  refine pt_get F hP (pt_c3 _ pt_k125) (pt_l3 pt_k125) inX3 rfl 1 (by decide) kw_292 rfl rfl dX7_ageOf_9 ?_
  refine pt_get F hP (pt_c4 _ (pt_3s pt_k125)) (pt_l4 (pt_3s pt_k125)) inX4 rfl 0 (by decide) kw_269 rfl rfl dX7_ageOf_12 ?_
  refine lv_iload_n hx hb dX7_ageOf_15 rfl (lv_at hl 1 rfl) ?_
  have hv16 := hw.1
  replace hw := hw.2
  refine pt_iald F hP (pt_4a (pt_3s pt_k125)) hv16 dX7_ageOf_16 ?_
  exact W.iret (v := (M_2 ((125 + 1) + 1) (Int32.toNatClampNeg p1))) hx hb hr (fun t ht hW => ⟨⟨(M_2 ((125 + 1) + 1) (Int32.toNatClampNeg p1)), M_2, rfl, hw, by unfold pt_B; rw [ht]; exact hP⟩, hS.F ht⟩) hS.2.2 dX7_ageOf_17
-- ===== X7_record
def wpX7_record (p1 : Int32) (M : pt_M) (Q : Int32 → pt_M → Prop) : Prop :=
  wpX7_checkState p1 M (fun (M_2 : pt_M) => vp_in p1 20 ∧ (wpX5_isMark (pt_s p1) M_2 (fun (r_14 : Int32) (M_14 : pt_M) => (¬ r_14 = 0 → vp_in p1 20 ∧ (Q (M_14 ((125 + 1) + 2) (Int32.toNatClampNeg p1)) M_14)) ∧ (r_14 = 0 → False))))
set_option maxHeartbeats 4000000 in
set_option maxRecDepth 100000 in
theorem mtX7_record (l : Launch) (D : va_G) (cA : Nat → ClassId) (ad : Nat → Nat) (hI : pt_I ad) (sz : Nat) (p1 : Int32) (M : pt_M) (Q : Int32 → pt_M → Prop) (hw : wpX7_record p1 M Q) : Met l yX7_record (Cond.code yX7_record cX7_record 2 (some .int) :: lw_all) ({ frames := 2, cells := 0, slots := 0, locals := 43 } : Room) (va_Pc [.ref (ad 0), .int p1] (pt_P D cA ad sz M)) (va_Qi Q (pt_B D cA ad) (pt_fr ad sz)) 0 0 (pt_fr ad sz) := by
  refine Met.ofW (cc := cX7_record) (maxL := 2) (ret := (some .int)) (by decide) rfl ?_
  intro p e s m args below meth c s₁ B hml hv
  obtain ⟨rfl, hsz, hP, hK⟩ := hv
  have hx := B.exec
  have hb := B.bytes
  have hr := B.returns
  have hts0 := atoms_spec (ws := (Cond.code yX7_record cX7_record 2 (some .int) :: lw_all)) B.pre
  have hown : s.vm.findClass RX7 = some m.cls := findClass_of_methodNamed B.named
  have hlocks := B.notSynchronized
  subst hsz
  have F : pt_F p m c cX7_record 2 s _ RX7 D cA := ⟨⟨hx, hb, hml, hown, fun w h => hts0 w (List.mem_cons_of_mem _ h)⟩, hK⟩
  have hD : ∀ M, va_D (pt_fr ad s.heap.size) (pt_W cA ad M) := pt_D hI (fun k h => Or.inl ⟨k, h, rfl⟩)
  have hS : va_S (pt_fr ad s.heap.size) s.heap s.heap [] := va_S.rf
  have hl := lv_entry ([.ref (ad 0), .int p1]) (n := 2) (Nat.le_of_ble_eq_true rfl)
  rw [lg_entry_eq]
  generalize (lg_sl ([.ref (ad 0), .int p1]) ++ List.replicate (2 - (lg_sl ([.ref (ad 0), .int p1])).length) Slot.unset).toArray = ls at hl ⊢
  have hl : lv_has ls 2 [(0, .ref (ad 0)), (1, .int p1)] := hl
  unfold wpX7_record at hw
  refine lv_aload_n hx hb dX7_record_0 rfl (lv_at hl 0 rfl) ?_
  refine lv_iload_n hx hb dX7_record_1 rfl (lv_at hl 1 rfl) ?_
  refine pt_callv (pt_runV (n := 1) (As := [.int p1]) (rest := []) F hP (pt_c7 _ pt_k0) (pt_l7 pt_k0) rfl (mtX7_checkState l D cA ad hI _ p1 M _ hw) kw_481 kw_478 kw_52 kw_480 kw_1 ⟨by decide, by decide, by decide +kernel⟩ ⟨rfl, rfl, Nat.le_of_ble_eq_true rfl, Nat.le_of_ble_eq_true rfl⟩ rfl hl.1 rfl (Nat.le_of_ble_eq_true rfl) dX7_record_2 ⟨Nat.zero_le _, Nat.zero_le _⟩) hS (fun _ h => h) (fun M_2 H locs hw hP hS _ _ => ?_)
  refine lv_aload_n hx hb dX7_record_5 rfl (lv_at hl 0 rfl) ?_
  refine pt_get F hP (pt_c7 _ pt_k0) (pt_l7 pt_k0) inX7 rfl 0 (by decide) kw_370 rfl rfl dX7_record_6 ?_
  refine pt_get F hP (pt_c1 _ pt_k1) (pt_l1 pt_k1) inX1 rfl 0 (by decide) kw_223 rfl rfl dX7_record_9 ?_
  refine lv_iload_n hx hb dX7_record_12 rfl (lv_at hl 1 rfl) ?_
  have hv13 := hw.1
  replace hw := hw.2
  refine pt_alds F hP hv13 dX7_record_13 ?_
  refine pt_calli (pt_runV (n := 0) (As := []) (rest := []) F hP (pt_c5 _ (pt_ks hv13)) (pt_l5 (pt_ks hv13)) rfl (mtX5_isMark l D cA ad hI _ (pt_s p1) (pt_ks hv13) M_2 _ hw) kw_567 kw_564 kw_54 kw_565 kw_566 ⟨by decide, by decide, by decide +kernel⟩ ⟨rfl, rfl, Nat.le_of_ble_eq_true rfl, Nat.le_of_ble_eq_true rfl⟩ rfl hl.1 rfl (Nat.le_of_ble_eq_true rfl) dX7_record_14 ⟨Nat.zero_le _, Nat.zero_le _⟩) hS (fun _ h => h) (fun r_14 M_14 H locs hw hP hS _ _ => ?_)
  refine lv_if_ne (tgt := 28) hx hb dX7_record_17 (by decide) (fun hc17 => ?_) (fun hc17 => ?_)
  · replace hw := hw.1 hc17
    refine lv_aload_n hx hb dX7_record_28 rfl (lv_at hl 0 rfl) ?_
    refine pt_get F hP (pt_c7 _ pt_k0) (pt_l7 pt_k0) inX7 rfl 1 (by decide) kw_371 rfl rfl dX7_record_29 ?_
    refine pt_get F hP (pt_c3 _ pt_k125) (pt_l3 pt_k125) inX3 rfl 1 (by decide) kw_292 rfl rfl dX7_record_32 ?_
    refine pt_get F hP (pt_c4 _ (pt_3s pt_k125)) (pt_l4 (pt_3s pt_k125)) inX4 rfl 1 (by decide) kw_272 rfl rfl dX7_record_35 ?_
    refine lv_iload_n hx hb dX7_record_38 rfl (lv_at hl 1 rfl) ?_
    have hv39 := hw.1
    replace hw := hw.2
    refine pt_iald F hP (pt_4r (pt_3s pt_k125)) hv39 dX7_record_39 ?_
    exact W.iret (v := (M_14 ((125 + 1) + 2) (Int32.toNatClampNeg p1))) hx hb hr (fun t ht hW => ⟨⟨(M_14 ((125 + 1) + 2) (Int32.toNatClampNeg p1)), M_14, rfl, hw, by unfold pt_B; rw [ht]; exact hP⟩, hS.F ht⟩) hS.2.2 dX7_record_40
  · replace hw := hw.2 hc17
    exact hw.elim
-- ===== X7_variable
def wpX7_variable (p1 : Int32) (M : pt_M) (Q : Int32 → pt_M → Prop) : Prop :=
  wpX7_isWithin p1 0 3 M (fun (r_3 : Int32) (M_3 : pt_M) => (¬ r_3 = 0 → vp_in p1 4 ∧ (Q (M_3 ((125 + 1) + 3) (Int32.toNatClampNeg p1)) M_3)) ∧ (r_3 = 0 → False))
set_option maxHeartbeats 4000000 in
set_option maxRecDepth 100000 in
theorem mtX7_variable (l : Launch) (D : va_G) (cA : Nat → ClassId) (ad : Nat → Nat) (hI : pt_I ad) (sz : Nat) (p1 : Int32) (M : pt_M) (Q : Int32 → pt_M → Prop) (hw : wpX7_variable p1 M Q) : Met l yX7_variable (Cond.code yX7_variable cX7_variable 2 (some .int) :: lw_all) ({ frames := 1, cells := 0, slots := 0, locals := 22 } : Room) (va_Pc [.ref (ad 0), .int p1] (pt_P D cA ad sz M)) (va_Qi Q (pt_B D cA ad) (pt_fr ad sz)) 0 0 (pt_fr ad sz) := by
  refine Met.ofW (cc := cX7_variable) (maxL := 2) (ret := (some .int)) (by decide) rfl ?_
  intro p e s m args below meth c s₁ B hml hv
  obtain ⟨rfl, hsz, hP, hK⟩ := hv
  have hx := B.exec
  have hb := B.bytes
  have hr := B.returns
  have hts0 := atoms_spec (ws := (Cond.code yX7_variable cX7_variable 2 (some .int) :: lw_all)) B.pre
  have hown : s.vm.findClass RX7 = some m.cls := findClass_of_methodNamed B.named
  have hlocks := B.notSynchronized
  subst hsz
  have F : pt_F p m c cX7_variable 2 s _ RX7 D cA := ⟨⟨hx, hb, hml, hown, fun w h => hts0 w (List.mem_cons_of_mem _ h)⟩, hK⟩
  have hD : ∀ M, va_D (pt_fr ad s.heap.size) (pt_W cA ad M) := pt_D hI (fun k h => Or.inl ⟨k, h, rfl⟩)
  have hS : va_S (pt_fr ad s.heap.size) s.heap s.heap [] := va_S.rf
  have hl := lv_entry ([.ref (ad 0), .int p1]) (n := 2) (Nat.le_of_ble_eq_true rfl)
  rw [lg_entry_eq]
  generalize (lg_sl ([.ref (ad 0), .int p1]) ++ List.replicate (2 - (lg_sl ([.ref (ad 0), .int p1])).length) Slot.unset).toArray = ls at hl ⊢
  have hl : lv_has ls 2 [(0, .ref (ad 0)), (1, .int p1)] := hl
  unfold wpX7_variable at hw
  refine lv_iload_n hx hb dX7_variable_0 rfl (lv_at hl 1 rfl) ?_
  refine lv_iconst (v := 0) hx hb dX7_variable_1 (by decide) ?_
  refine lv_iconst (v := 3) hx hb dX7_variable_2 (by decide) ?_
  refine pt_calli (pt_runS (n := 3) (As := [.int p1, .int 0, .int 3]) (rest := []) F hP (mtX7_isWithin l D cA ad hI _ p1 0 3 M _ hw) kw_432 kw_430 kw_52 kw_431 ⟨by decide, by decide, by decide +kernel⟩ ⟨rfl, rfl, Nat.le_of_ble_eq_true rfl, Nat.le_of_ble_eq_true rfl⟩ rfl hl.1 rfl (Nat.le_of_ble_eq_true rfl) dX7_variable_3 ⟨Nat.zero_le _, Nat.zero_le _⟩) hS (fun _ h => h) (fun r_3 M_3 H locs hw hP hS _ _ => ?_)
  refine lv_if_ne (tgt := 17) hx hb dX7_variable_6 (by decide) (fun hc6 => ?_) (fun hc6 => ?_)
  · replace hw := hw.1 hc6
    refine lv_aload_n hx hb dX7_variable_17 rfl (lv_at hl 0 rfl) ?_
    refine pt_get F hP (pt_c7 _ pt_k0) (pt_l7 pt_k0) inX7 rfl 1 (by decide) kw_371 rfl rfl dX7_variable_18 ?_
    refine pt_get F hP (pt_c3 _ pt_k125) (pt_l3 pt_k125) inX3 rfl 1 (by decide) kw_292 rfl rfl dX7_variable_21 ?_
    refine pt_get F hP (pt_c4 _ (pt_3s pt_k125)) (pt_l4 (pt_3s pt_k125)) inX4 rfl 2 (by decide) kw_275 rfl rfl dX7_variable_24 ?_
    refine lv_iload_n hx hb dX7_variable_27 rfl (lv_at hl 1 rfl) ?_
    have hv28 := hw.1
    replace hw := hw.2
    refine pt_iald F hP (pt_4v (pt_3s pt_k125)) hv28 dX7_variable_28 ?_
    exact W.iret (v := (M_3 ((125 + 1) + 3) (Int32.toNatClampNeg p1))) hx hb hr (fun t ht hW => ⟨⟨(M_3 ((125 + 1) + 3) (Int32.toNatClampNeg p1)), M_3, rfl, hw, by unfold pt_B; rw [ht]; exact hP⟩, hS.F ht⟩) hS.2.2 dX7_variable_29
  · replace hw := hw.2 hc6
    exact hw.elim
-- ===== X7_clock
def wpX7_clock  (M : pt_M) (Q : Int32 → pt_M → Prop) : Prop :=
  Q (M 125 4) M
set_option maxHeartbeats 4000000 in
set_option maxRecDepth 100000 in
theorem mtX7_clock (l : Launch) (D : va_G) (cA : Nat → ClassId) (ad : Nat → Nat) (hI : pt_I ad) (sz : Nat) (M : pt_M) (Q : Int32 → pt_M → Prop) (hw : wpX7_clock M Q) : Met l yX7_clock (Cond.code yX7_clock cX7_clock 1 (some .int) :: lw_all) ({ frames := 0, cells := 0, slots := 0, locals := 0 } : Room) (va_Pc [.ref (ad 0)] (pt_P D cA ad sz M)) (va_Qi Q (pt_B D cA ad) (pt_fr ad sz)) 0 0 (pt_fr ad sz) := by
  refine Met.ofW (cc := cX7_clock) (maxL := 1) (ret := (some .int)) (by decide) rfl ?_
  intro p e s m args below meth c s₁ B hml hv
  obtain ⟨rfl, hsz, hP, hK⟩ := hv
  have hx := B.exec
  have hb := B.bytes
  have hr := B.returns
  have hts0 := atoms_spec (ws := (Cond.code yX7_clock cX7_clock 1 (some .int) :: lw_all)) B.pre
  have hown : s.vm.findClass RX7 = some m.cls := findClass_of_methodNamed B.named
  have hlocks := B.notSynchronized
  subst hsz
  have F : pt_F p m c cX7_clock 1 s _ RX7 D cA := ⟨⟨hx, hb, hml, hown, fun w h => hts0 w (List.mem_cons_of_mem _ h)⟩, hK⟩
  have hD : ∀ M, va_D (pt_fr ad s.heap.size) (pt_W cA ad M) := pt_D hI (fun k h => Or.inl ⟨k, h, rfl⟩)
  have hS : va_S (pt_fr ad s.heap.size) s.heap s.heap [] := va_S.rf
  have hl := lv_entry ([.ref (ad 0)]) (n := 1) (Nat.le_of_ble_eq_true rfl)
  rw [lg_entry_eq]
  generalize (lg_sl ([.ref (ad 0)]) ++ List.replicate (1 - (lg_sl ([.ref (ad 0)])).length) Slot.unset).toArray = ls at hl ⊢
  have hl : lv_has ls 1 [(0, .ref (ad 0))] := hl
  unfold wpX7_clock at hw
  refine lv_aload_n hx hb dX7_clock_0 rfl (lv_at hl 0 rfl) ?_
  refine pt_get F hP (pt_c7 _ pt_k0) (pt_l7 pt_k0) inX7 rfl 1 (by decide) kw_371 rfl rfl dX7_clock_1 ?_
  refine pt_get F hP (pt_c3 _ pt_k125) (pt_l3 pt_k125) inX3 rfl 4 (by decide) kw_298 rfl rfl dX7_clock_4 ?_
  exact W.iret (v := (M 125 4)) hx hb hr (fun t ht hW => ⟨⟨(M 125 4), M, rfl, hw, by unfold pt_B; rw [ht]; exact hP⟩, hS.F ht⟩) hS.2.2 dX7_clock_7
-- ===== X7_fired
def wpX7_fired (p1 : Int32) (M : pt_M) (Q : Int32 → pt_M → Prop) : Prop :=
  wpX7_checkTransition p1 M (fun (M_2 : pt_M) => vp_in p1 30 ∧ (Q (M_2 (125 + 5) (Int32.toNatClampNeg p1)) M_2))
set_option maxHeartbeats 4000000 in
set_option maxRecDepth 100000 in
theorem mtX7_fired (l : Launch) (D : va_G) (cA : Nat → ClassId) (ad : Nat → Nat) (hI : pt_I ad) (sz : Nat) (p1 : Int32) (M : pt_M) (Q : Int32 → pt_M → Prop) (hw : wpX7_fired p1 M Q) : Met l yX7_fired (Cond.code yX7_fired cX7_fired 2 (some .int) :: lw_all) ({ frames := 2, cells := 0, slots := 0, locals := 43 } : Room) (va_Pc [.ref (ad 0), .int p1] (pt_P D cA ad sz M)) (va_Qi Q (pt_B D cA ad) (pt_fr ad sz)) 0 0 (pt_fr ad sz) := by
  refine Met.ofW (cc := cX7_fired) (maxL := 2) (ret := (some .int)) (by decide) rfl ?_
  intro p e s m args below meth c s₁ B hml hv
  obtain ⟨rfl, hsz, hP, hK⟩ := hv
  have hx := B.exec
  have hb := B.bytes
  have hr := B.returns
  have hts0 := atoms_spec (ws := (Cond.code yX7_fired cX7_fired 2 (some .int) :: lw_all)) B.pre
  have hown : s.vm.findClass RX7 = some m.cls := findClass_of_methodNamed B.named
  have hlocks := B.notSynchronized
  subst hsz
  have F : pt_F p m c cX7_fired 2 s _ RX7 D cA := ⟨⟨hx, hb, hml, hown, fun w h => hts0 w (List.mem_cons_of_mem _ h)⟩, hK⟩
  have hD : ∀ M, va_D (pt_fr ad s.heap.size) (pt_W cA ad M) := pt_D hI (fun k h => Or.inl ⟨k, h, rfl⟩)
  have hS : va_S (pt_fr ad s.heap.size) s.heap s.heap [] := va_S.rf
  have hl := lv_entry ([.ref (ad 0), .int p1]) (n := 2) (Nat.le_of_ble_eq_true rfl)
  rw [lg_entry_eq]
  generalize (lg_sl ([.ref (ad 0), .int p1]) ++ List.replicate (2 - (lg_sl ([.ref (ad 0), .int p1])).length) Slot.unset).toArray = ls at hl ⊢
  have hl : lv_has ls 2 [(0, .ref (ad 0)), (1, .int p1)] := hl
  unfold wpX7_fired at hw
  refine lv_aload_n hx hb dX7_fired_0 rfl (lv_at hl 0 rfl) ?_
  refine lv_iload_n hx hb dX7_fired_1 rfl (lv_at hl 1 rfl) ?_
  refine pt_callv (pt_runV (n := 1) (As := [.int p1]) (rest := []) F hP (pt_c7 _ pt_k0) (pt_l7 pt_k0) rfl (mtX7_checkTransition l D cA ad hI _ p1 M _ hw) kw_583 kw_580 kw_52 kw_582 kw_3 ⟨by decide, by decide, by decide +kernel⟩ ⟨rfl, rfl, Nat.le_of_ble_eq_true rfl, Nat.le_of_ble_eq_true rfl⟩ rfl hl.1 rfl (Nat.le_of_ble_eq_true rfl) dX7_fired_2 ⟨Nat.zero_le _, Nat.zero_le _⟩) hS (fun _ h => h) (fun M_2 H locs hw hP hS _ _ => ?_)
  refine lv_aload_n hx hb dX7_fired_5 rfl (lv_at hl 0 rfl) ?_
  refine pt_get F hP (pt_c7 _ pt_k0) (pt_l7 pt_k0) inX7 rfl 1 (by decide) kw_371 rfl rfl dX7_fired_6 ?_
  refine pt_get F hP (pt_c3 _ pt_k125) (pt_l3 pt_k125) inX3 rfl 2 (by decide) kw_294 rfl rfl dX7_fired_9 ?_
  refine lv_iload_n hx hb dX7_fired_12 rfl (lv_at hl 1 rfl) ?_
  have hv13 := hw.1
  replace hw := hw.2
  refine pt_iald F hP (pt_3f pt_k125) hv13 dX7_fired_13 ?_
  exact W.iret (v := (M_2 (125 + 5) (Int32.toNatClampNeg p1))) hx hb hr (fun t ht hW => ⟨⟨(M_2 (125 + 5) (Int32.toNatClampNeg p1)), M_2, rfl, hw, by unfold pt_B; rw [ht]; exact hP⟩, hS.F ht⟩) hS.2.2 dX7_fired_14
