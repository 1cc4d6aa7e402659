-- ===== X7_isEnded
def wpVX7_isEnded (E : String → Prop) (p1 : Int32) (M : pt_M) (Q : Int32 → pt_M → Prop) : Prop :=
  wpVX7_checkState E p1 M (fun (M_2 : pt_M) => wpX1_endedAmong (M_2 (125 + 1) 3) M_2 (fun (r_19 : Int32) (M_19 : pt_M) => wpX7_has r_19 p1 M_19 (fun (r_23 : Int32) (M_23 : pt_M) => pt_zb r_23 ∧ Q r_23 M_23)))
set_option maxHeartbeats 4000000 in
set_option maxRecDepth 100000 in
theorem mtVX7_isEnded (l : Launch) (hst : l.stackTraces = false) (D : va_G) (cA : Nat → ClassId) (ad : Nat → Nat) (hI : pt_I ad) (sz : Nat) (E : String → Prop) (p1 : Int32) (M : pt_M) (Q : Int32 → pt_M → Prop) (hw : wpVX7_isEnded E p1 M Q) : vx_Met l yX7_isEnded (Cond.code yX7_isEnded cX7_isEnded 2 (some .boolean) :: lw_all) ({ frames := 7, cells := 1, slots := 6, locals := 102 } : Room) (va_Pc [.ref (ad 0), .int p1] (px_P D cA ad sz M)) (va_Qi Q (pt_B D cA ad) (pt_fr ad sz)) (px_E E ad sz) 1 6 (pt_fr ad sz) := by
  refine vx_ofW (cc := cX7_isEnded) (maxL := 2) (ret := (some .boolean)) (by decide) rfl ?_
  intro p e s m args below meth c s₁ B hml hout hv
  obtain ⟨rfl, ⟨hsz, hP, hK⟩, hZ⟩ := hv
  have hx := B.exec
  have hb := B.bytes
  have hr := B.returns
  have hts0 := atoms_spec (ws := (Cond.code yX7_isEnded cX7_isEnded 2 (some .boolean) :: lw_all)) B.pre
  have hown : s.vm.findClass RX7 = some m.cls := findClass_of_methodNamed B.named
  have hlocks := B.notSynchronized
  subst hsz
  have F : pt_F p m c cX7_isEnded 2 s _ RX7 D cA := ⟨⟨hx, hb, hml, hown, fun w h => hts0 w (List.mem_cons_of_mem _ h)⟩, hK⟩
  have hD : ∀ M, va_D (pt_fr ad s.heap.size) (pt_W cA ad M) := pt_D hI (fun k h => Or.inl ⟨k, h, rfl⟩)
  have hS : va_S (pt_fr ad s.heap.size) s.heap s.heap [] := va_S.rf
  have hl := lv_entry ([.ref (ad 0), .int p1]) (n := 2) (Nat.le_of_ble_eq_true rfl)
  rw [lg_entry_eq]
  generalize (lg_sl ([.ref (ad 0), .int p1]) ++ List.replicate (2 - (lg_sl ([.ref (ad 0), .int p1])).length) Slot.unset).toArray = ls at hl ⊢
  have hl : lv_has ls 2 [(0, .ref (ad 0)), (1, .int p1)] := hl
  unfold wpVX7_isEnded at hw
  refine lv_aload_n hx hb dX7_isEnded_0 rfl (lv_at hl 0 rfl) ?_
  refine lv_iload_n hx hb dX7_isEnded_1 rfl (lv_at hl 1 rfl) ?_
  refine px_callv (E := E) (px_runV (n := 1) (As := [.int p1]) (rest := []) F hP hZ hS (fun q h => px_frs hS.1 q h) (pt_c7 _ pt_k0) (pt_l7 pt_k0) rfl (mtVX7_checkState l hst D cA ad hI _ E p1 M _ hw) kw_481 kw_478 kw_52 kw_480 kw_1 ⟨by decide, by decide, by decide +kernel⟩ ⟨rfl, rfl, (Nat.le_of_ble_eq_true rfl), (Nat.le_of_ble_eq_true rfl)⟩ rfl hl.1 rfl (Nat.le_of_ble_eq_true rfl) dX7_isEnded_2 ⟨(Nat.le_of_ble_eq_true rfl), (Nat.le_of_ble_eq_true rfl)⟩) hS (fun _ h => h) (fun X ce q9 H locs hE hS _ _ hce hcv hcl => px_out hout hlocks hE hS hce hcv hcl (Nat.le_of_ble_eq_true rfl) (Nat.le_of_ble_eq_true rfl)) (fun M_2 H locs hw hP hS _ _ => ?_)
  refine W.widen (k := 1) (n := 6) (Nat.le_of_ble_eq_true rfl) (Nat.le_of_ble_eq_true rfl) ?_
  refine lv_aload_n hx hb dX7_isEnded_5 rfl (lv_at hl 0 rfl) ?_
  refine pt_get F hP (pt_c7 _ pt_k0) (pt_l7 pt_k0) inX7 rfl 0 (by decide) kw_370 rfl rfl dX7_isEnded_6 ?_
  refine lv_aload_n hx hb dX7_isEnded_9 rfl (lv_at hl 0 rfl) ?_
  refine pt_get F hP (pt_c7 _ pt_k0) (pt_l7 pt_k0) inX7 rfl 1 (by decide) kw_371 rfl rfl dX7_isEnded_10 ?_
  refine pt_get F hP (pt_c3 _ pt_k125) (pt_l3 pt_k125) inX3 rfl 1 (by decide) kw_292 rfl rfl dX7_isEnded_13 ?_
  refine pt_get F hP (pt_c4 _ (pt_3s pt_k125)) (pt_l4 (pt_3s pt_k125)) inX4 rfl 3 (by decide) kw_279 rfl rfl dX7_isEnded_16 ?_
  refine pt_calli (pt_runV (n := 1) (As := [.int (M_2 (125 + 1) 3)]) (rest := []) F hP (pt_c1 _ pt_k1) (pt_l1 pt_k1) rfl (mtX1_endedAmong l D cA ad hI _ (M_2 (125 + 1) 3) M_2 _ hw) kw_473 kw_470 kw_53 kw_471 kw_472 ⟨by decide, by decide, by decide +kernel⟩ ⟨rfl, rfl, Nat.le_of_ble_eq_true rfl, Nat.le_of_ble_eq_true rfl⟩ rfl hl.1 rfl (Nat.le_of_ble_eq_true rfl) dX7_isEnded_19 ⟨Nat.le_of_ble_eq_true rfl, Nat.le_of_ble_eq_true rfl⟩) hS (fun _ h => h) (fun r_19 M_19 H locs hw hP hS _ _ => ?_)
  refine lv_iload_n hx hb dX7_isEnded_22 rfl (lv_at hl 1 rfl) ?_
  refine pt_calli (pt_runS (n := 2) (As := [.int r_19, .int p1]) (rest := []) F hP (mtX7_has l D cA ad hI _ r_19 p1 M_19 _ hw) kw_449 kw_447 kw_52 kw_448 ⟨by decide, by decide, by decide +kernel⟩ ⟨rfl, rfl, Nat.le_of_ble_eq_true rfl, Nat.le_of_ble_eq_true rfl⟩ rfl hl.1 rfl (Nat.le_of_ble_eq_true rfl) dX7_isEnded_23 ⟨Nat.le_of_ble_eq_true rfl, Nat.le_of_ble_eq_true rfl⟩) hS (fun _ h => h) (fun r_23 M_23 H locs hw hP hS _ _ => ?_)
  refine vx_ret ?_
  exact W.zret (v := r_23) (ty := .boolean) hx hb hr (pt_zb_n hw.1) (fun t ht hW => ⟨⟨r_23, M_23, rfl, hw.2, by unfold pt_B; rw [ht]; exact hP⟩, hS.F ht⟩) hS.2.2 dX7_isEnded_26
-- ===== X7_ageOf
def wpVX7_ageOf (E : String → Prop) (p1 : Int32) (M : pt_M) (Q : Int32 → pt_M → Prop) : Prop :=
  wpVX7_checkState E p1 M (fun (M_2 : pt_M) => vp_in p1 20 ∧ (Q (M_2 ((125 + 1) + 1) (Int32.toNatClampNeg p1)) M_2))
set_option maxHeartbeats 4000000 in
set_option maxRecDepth 100000 in
theorem mtVX7_ageOf (l : Launch) (hst : l.stackTraces = false) (D : va_G) (cA : Nat → ClassId) (ad : Nat → Nat) (hI : pt_I ad) (sz : Nat) (E : String → Prop) (p1 : Int32) (M : pt_M) (Q : Int32 → pt_M → Prop) (hw : wpVX7_ageOf E p1 M Q) : vx_Met l yX7_ageOf (Cond.code yX7_ageOf cX7_ageOf 2 (some .int) :: lw_all) ({ frames := 7, cells := 1, slots := 6, locals := 102 } : Room) (va_Pc [.ref (ad 0), .int p1] (px_P D cA ad sz M)) (va_Qi Q (pt_B D cA ad) (pt_fr ad sz)) (px_E E ad sz) 1 6 (pt_fr ad sz) := by
  refine vx_ofW (cc := cX7_ageOf) (maxL := 2) (ret := (some .int)) (by decide) rfl ?_
  intro p e s m args below meth c s₁ B hml hout hv
  obtain ⟨rfl, ⟨hsz, hP, hK⟩, hZ⟩ := hv
  have hx := B.exec
  have hb := B.bytes
  have hr := B.returns
  have hts0 := atoms_spec (ws := (Cond.code yX7_ageOf cX7_ageOf 2 (some .int) :: lw_all)) B.pre
  have hown : s.vm.findClass RX7 = some m.cls := findClass_of_methodNamed B.named
  have hlocks := B.notSynchronized
  subst hsz
  have F : pt_F p m c cX7_ageOf 2 s _ RX7 D cA := ⟨⟨hx, hb, hml, hown, fun w h => hts0 w (List.mem_cons_of_mem _ h)⟩, hK⟩
  have hD : ∀ M, va_D (pt_fr ad s.heap.size) (pt_W cA ad M) := pt_D hI (fun k h => Or.inl ⟨k, h, rfl⟩)
  have hS : va_S (pt_fr ad s.heap.size) s.heap s.heap [] := va_S.rf
  have hl := lv_entry ([.ref (ad 0), .int p1]) (n := 2) (Nat.le_of_ble_eq_true rfl)
  rw [lg_entry_eq]
  generalize (lg_sl ([.ref (ad 0), .int p1]) ++ List.replicate (2 - (lg_sl ([.ref (ad 0), .int p1])).length) Slot.unset).toArray = ls at hl ⊢
  have hl : lv_has ls 2 [(0, .ref (ad 0)), (1, .int p1)] := hl
  unfold wpVX7_ageOf at hw
  refine lv_aload_n hx hb dX7_ageOf_0 rfl (lv_at hl 0 rfl) ?_
  refine lv_iload_n hx hb dX7_ageOf_1 rfl (lv_at hl 1 rfl) ?_
  refine px_callv (E := E) (px_runV (n := 1) (As := [.int p1]) (rest := []) F hP hZ hS (fun q h => px_frs hS.1 q h) (pt_c7 _ pt_k0) (pt_l7 pt_k0) rfl (mtVX7_checkState l hst D cA ad hI _ E p1 M _ hw) kw_481 kw_478 kw_52 kw_480 kw_1 ⟨by decide, by decide, by decide +kernel⟩ ⟨rfl, rfl, (Nat.le_of_ble_eq_true rfl), (Nat.le_of_ble_eq_true rfl)⟩ rfl hl.1 rfl (Nat.le_of_ble_eq_true rfl) dX7_ageOf_2 ⟨(Nat.le_of_ble_eq_true rfl), (Nat.le_of_ble_eq_true rfl)⟩) hS (fun _ h => h) (fun X ce q9 H locs hE hS _ _ hce hcv hcl => px_out hout hlocks hE hS hce hcv hcl (Nat.le_of_ble_eq_true rfl) (Nat.le_of_ble_eq_true rfl)) (fun M_2 H locs hw hP hS _ _ => ?_)
  refine W.widen (k := 1) (n := 6) (Nat.le_of_ble_eq_true rfl) (Nat.le_of_ble_eq_true rfl) ?_
  refine lv_aload_n hx hb dX7_ageOf_5 rfl (lv_at hl 0 rfl) ?_
  refine pt_get F hP (pt_c7 _ pt_k0) (pt_l7 pt_k0) inX7 rfl 1 (by decide) kw_371 rfl rfl dX7_ageOf_6 ?_
  refine pt_get F hP (pt_c3 _ pt_k125) (pt_l3 pt_k125) inX3 rfl 1 (by decide) kw_292 rfl rfl dX7_ageOf_9 ?_
  refine pt_get F hP (pt_c4 _ (pt_3s pt_k125)) (pt_l4 (pt_3s pt_k125)) inX4 rfl 0 (by decide) kw_269 rfl rfl dX7_ageOf_12 ?_
  refine lv_iload_n hx hb dX7_ageOf_15 rfl (lv_at hl 1 rfl) ?_
  have hv16 := hw.1
  replace hw := hw.2
  refine pt_iald F hP (pt_4a (pt_3s pt_k125)) hv16 dX7_ageOf_16 ?_
  refine vx_ret ?_
  exact W.iret (v := (M_2 ((125 + 1) + 1) (Int32.toNatClampNeg p1))) hx hb hr (fun t ht hW => ⟨⟨(M_2 ((125 + 1) + 1) (Int32.toNatClampNeg p1)), M_2, rfl, hw, by unfold pt_B; rw [ht]; exact hP⟩, hS.F ht⟩) hS.2.2 dX7_ageOf_17
-- ===== X7_record
def wpVX7_record (E : String → Prop) (p1 : Int32) (M : pt_M) (Q : Int32 → pt_M → Prop) : Prop :=
  wpVX7_checkState E p1 M (fun (M_2 : pt_M) => vp_in p1 20 ∧ (wpX5_isMark (pt_s p1) M_2 (fun (r_14 : Int32) (M_14 : pt_M) => (¬ r_14 = 0 → vp_in p1 20 ∧ (Q (M_14 ((125 + 1) + 2) (Int32.toNatClampNeg p1)) M_14)) ∧ (r_14 = 0 → E "java/lang/IllegalArgumentException"))))
set_option maxHeartbeats 4000000 in
set_option maxRecDepth 100000 in
theorem mtVX7_record (l : Launch) (hst : l.stackTraces = false) (D : va_G) (cA : Nat → ClassId) (ad : Nat → Nat) (hI : pt_I ad) (sz : Nat) (E : String → Prop) (p1 : Int32) (M : pt_M) (Q : Int32 → pt_M → Prop) (hw : wpVX7_record E p1 M Q) : vx_Met l yX7_record (Cond.code yX7_record cX7_record 2 (some .int) :: lw_all) ({ frames := 7, cells := 2, slots := 12, locals := 102 } : Room) (va_Pc [.ref (ad 0), .int p1] (px_P D cA ad sz M)) (va_Qi Q (pt_B D cA ad) (pt_fr ad sz)) (px_E E ad sz) 2 12 (pt_fr ad sz) := by
  refine vx_ofW (cc := cX7_record) (maxL := 2) (ret := (some .int)) (by decide) rfl ?_
  intro p e s m args below meth c s₁ B hml hout hv
  obtain ⟨rfl, ⟨hsz, hP, hK⟩, hZ⟩ := hv
  have hx := B.exec
  have hb := B.bytes
  have hr := B.returns
  have hts0 := atoms_spec (ws := (Cond.code yX7_record cX7_record 2 (some .int) :: lw_all)) B.pre
  have hown : s.vm.findClass RX7 = some m.cls := findClass_of_methodNamed B.named
  have hlocks := B.notSynchronized
  subst hsz
  have F : pt_F p m c cX7_record 2 s _ RX7 D cA := ⟨⟨hx, hb, hml, hown, fun w h => hts0 w (List.mem_cons_of_mem _ h)⟩, hK⟩
  have hD : ∀ M, va_D (pt_fr ad s.heap.size) (pt_W cA ad M) := pt_D hI (fun k h => Or.inl ⟨k, h, rfl⟩)
  have hS : va_S (pt_fr ad s.heap.size) s.heap s.heap [] := va_S.rf
  have hl := lv_entry ([.ref (ad 0), .int p1]) (n := 2) (Nat.le_of_ble_eq_true rfl)
  rw [lg_entry_eq]
  generalize (lg_sl ([.ref (ad 0), .int p1]) ++ List.replicate (2 - (lg_sl ([.ref (ad 0), .int p1])).length) Slot.unset).toArray = ls at hl ⊢
  have hl : lv_has ls 2 [(0, .ref (ad 0)), (1, .int p1)] := hl
  unfold wpVX7_record at hw
  refine lv_aload_n hx hb dX7_record_0 rfl (lv_at hl 0 rfl) ?_
  refine lv_iload_n hx hb dX7_record_1 rfl (lv_at hl 1 rfl) ?_
  refine px_callv (E := E) (px_runV (n := 1) (As := [.int p1]) (rest := []) F hP hZ hS (fun q h => px_frs hS.1 q h) (pt_c7 _ pt_k0) (pt_l7 pt_k0) rfl (mtVX7_checkState l hst D cA ad hI _ E p1 M _ hw) kw_481 kw_478 kw_52 kw_480 kw_1 ⟨by decide, by decide, by decide +kernel⟩ ⟨rfl, rfl, (Nat.le_of_ble_eq_true rfl), (Nat.le_of_ble_eq_true rfl)⟩ rfl hl.1 rfl (Nat.le_of_ble_eq_true rfl) dX7_record_2 ⟨(Nat.le_of_ble_eq_true rfl), (Nat.le_of_ble_eq_true rfl)⟩) hS (fun _ h => h) (fun X ce q9 H locs hE hS _ _ hce hcv hcl => px_out hout hlocks hE hS hce hcv hcl (Nat.le_of_ble_eq_true rfl) (Nat.le_of_ble_eq_true rfl)) (fun M_2 H locs hw hP hS _ _ => ?_)
  refine W.widen (k := 1) (n := 6) (Nat.le_of_ble_eq_true rfl) (Nat.le_of_ble_eq_true rfl) ?_
  refine lv_aload_n hx hb dX7_record_5 rfl (lv_at hl 0 rfl) ?_
  refine pt_get F hP (pt_c7 _ pt_k0) (pt_l7 pt_k0) inX7 rfl 0 (by decide) kw_370 rfl rfl dX7_record_6 ?_
  refine pt_get F hP (pt_c1 _ pt_k1) (pt_l1 pt_k1) inX1 rfl 0 (by decide) kw_223 rfl rfl dX7_record_9 ?_
  refine lv_iload_n hx hb dX7_record_12 rfl (lv_at hl 1 rfl) ?_
  have hv13 := hw.1
  replace hw := hw.2
  refine pt_alds F hP hv13 dX7_record_13 ?_
  refine pt_calli (pt_runV (n := 0) (As := []) (rest := []) F hP (pt_c5 _ (pt_ks hv13)) (pt_l5 (pt_ks hv13)) rfl (mtX5_isMark l D cA ad hI _ (pt_s p1) (pt_ks hv13) M_2 _ hw) kw_567 kw_564 kw_54 kw_565 kw_566 ⟨by decide, by decide, by decide +kernel⟩ ⟨rfl, rfl, Nat.le_of_ble_eq_true rfl, Nat.le_of_ble_eq_true rfl⟩ rfl hl.1 rfl (Nat.le_of_ble_eq_true rfl) dX7_record_14 ⟨Nat.le_of_ble_eq_true rfl, Nat.le_of_ble_eq_true rfl⟩) hS (fun _ h => h) (fun r_14 M_14 H locs hw hP hS _ _ => ?_)
  refine lv_if_ne (tgt := 28) hx hb dX7_record_17 (by decide) (fun hc17 => ?_) (fun hc17 => ?_)
  · replace hw := hw.1 hc17
    refine lv_aload_n hx hb dX7_record_28 rfl (lv_at hl 0 rfl) ?_
    refine pt_get F hP (pt_c7 _ pt_k0) (pt_l7 pt_k0) inX7 rfl 1 (by decide) kw_371 rfl rfl dX7_record_29 ?_
    refine pt_get F hP (pt_c3 _ pt_k125) (pt_l3 pt_k125) inX3 rfl 1 (by decide) kw_292 rfl rfl dX7_record_32 ?_
    refine pt_get F hP (pt_c4 _ (pt_3s pt_k125)) (pt_l4 (pt_3s pt_k125)) inX4 rfl 1 (by decide) kw_272 rfl rfl dX7_record_35 ?_
    refine lv_iload_n hx hb dX7_record_38 rfl (lv_at hl 1 rfl) ?_
    have hv39 := hw.1
    replace hw := hw.2
    refine pt_iald F hP (pt_4r (pt_3s pt_k125)) hv39 dX7_record_39 ?_
    refine W.widen (k := 2) (n := 12) (Nat.le_of_ble_eq_true rfl) (Nat.le_of_ble_eq_true rfl) ?_
    refine vx_ret ?_
    exact W.iret (v := (M_14 ((125 + 1) + 2) (Int32.toNatClampNeg p1))) hx hb hr (fun t ht hW => ⟨⟨(M_14 ((125 + 1) + 2) (Int32.toNatClampNeg p1)), M_14, rfl, hw, by unfold pt_B; rw [ht]; exact hP⟩, hS.F ht⟩) hS.2.2 dX7_record_40
  · replace hw := hw.2 hc17
    exact px_thr F hst (by decide) kw_545 kw_76 vatRX7_68 vgdRX7_68 hZ hS hl.1 dX7_record_20 dX7_record_23 dX7_record_24 dX7_record_27 hout (Nat.le_of_ble_eq_true rfl) (Nat.le_of_ble_eq_true rfl) (Nat.le_of_ble_eq_true rfl) (Nat.le_of_ble_eq_true rfl) hlocks hw (Nat.le_of_ble_eq_true rfl) (Nat.le_of_ble_eq_true rfl)
-- ===== X7_variable
def wpVX7_variable (E : String → Prop) (p1 : Int32) (M : pt_M) (Q : Int32 → pt_M → Prop) : Prop :=
  wpX7_isWithin p1 0 3 M (fun (r_3 : Int32) (M_3 : pt_M) => (¬ r_3 = 0 → vp_in p1 4 ∧ (Q (M_3 ((125 + 1) + 3) (Int32.toNatClampNeg p1)) M_3)) ∧ (r_3 = 0 → E "java/lang/IndexOutOfBoundsException"))
set_option maxHeartbeats 4000000 in
set_option maxRecDepth 100000 in
theorem mtVX7_variable (l : Launch) (hst : l.stackTraces = false) (D : va_G) (cA : Nat → ClassId) (ad : Nat → Nat) (hI : pt_I ad) (sz : Nat) (E : String → Prop) (p1 : Int32) (M : pt_M) (Q : Int32 → pt_M → Prop) (hw : wpVX7_variable E p1 M Q) : vx_Met l yX7_variable (Cond.code yX7_variable cX7_variable 2 (some .int) :: lw_all) ({ frames := 6, cells := 1, slots := 6, locals := 81 } : Room) (va_Pc [.ref (ad 0), .int p1] (px_P D cA ad sz M)) (va_Qi Q (pt_B D cA ad) (pt_fr ad sz)) (px_E E ad sz) 1 6 (pt_fr ad sz) := by
  refine vx_ofW (cc := cX7_variable) (maxL := 2) (ret := (some .int)) (by decide) rfl ?_
  intro p e s m args below meth c s₁ B hml hout hv
  obtain ⟨rfl, ⟨hsz, hP, hK⟩, hZ⟩ := hv
  have hx := B.exec
  have hb := B.bytes
  have hr := B.returns
  have hts0 := atoms_spec (ws := (Cond.code yX7_variable cX7_variable 2 (some .int) :: lw_all)) B.pre
  have hown : s.vm.findClass RX7 = some m.cls := findClass_of_methodNamed B.named
  have hlocks := B.notSynchronized
  subst hsz
  have F : pt_F p m c cX7_variable 2 s _ RX7 D cA := ⟨⟨hx, hb, hml, hown, fun w h => hts0 w (List.mem_cons_of_mem _ h)⟩, hK⟩
  have hD : ∀ M, va_D (pt_fr ad s.heap.size) (pt_W cA ad M) := pt_D hI (fun k h => Or.inl ⟨k, h, rfl⟩)
  have hS : va_S (pt_fr ad s.heap.size) s.heap s.heap [] := va_S.rf
  have hl := lv_entry ([.ref (ad 0), .int p1]) (n := 2) (Nat.le_of_ble_eq_true rfl)
  rw [lg_entry_eq]
  generalize (lg_sl ([.ref (ad 0), .int p1]) ++ List.replicate (2 - (lg_sl ([.ref (ad 0), .int p1])).length) Slot.unset).toArray = ls at hl ⊢
  have hl : lv_has ls 2 [(0, .ref (ad 0)), (1, .int p1)] := hl
  unfold wpVX7_variable at hw
  refine lv_iload_n hx hb dX7_variable_0 rfl (lv_at hl 1 rfl) ?_
  refine lv_iconst (v := 0) hx hb dX7_variable_1 (by decide) ?_
  refine lv_iconst (v := 3) hx hb dX7_variable_2 (by decide) ?_
  refine pt_calli (pt_runS (n := 3) (As := [.int p1, .int 0, .int 3]) (rest := []) F hP (mtX7_isWithin l D cA ad hI _ p1 0 3 M _ hw) kw_432 kw_430 kw_52 kw_431 ⟨by decide, by decide, by decide +kernel⟩ ⟨rfl, rfl, Nat.le_of_ble_eq_true rfl, Nat.le_of_ble_eq_true rfl⟩ rfl hl.1 rfl (Nat.le_of_ble_eq_true rfl) dX7_variable_3 ⟨Nat.le_of_ble_eq_true rfl, Nat.le_of_ble_eq_true rfl⟩) hS (fun _ h => h) (fun r_3 M_3 H locs hw hP hS _ _ => ?_)
  refine lv_if_ne (tgt := 17) hx hb dX7_variable_6 (by decide) (fun hc6 => ?_) (fun hc6 => ?_)
  · replace hw := hw.1 hc6
    refine lv_aload_n hx hb dX7_variable_17 rfl (lv_at hl 0 rfl) ?_
    refine pt_get F hP (pt_c7 _ pt_k0) (pt_l7 pt_k0) inX7 rfl 1 (by decide) kw_371 rfl rfl dX7_variable_18 ?_
    refine pt_get F hP (pt_c3 _ pt_k125) (pt_l3 pt_k125) inX3 rfl 1 (by decide) kw_292 rfl rfl dX7_variable_21 ?_
    refine pt_get F hP (pt_c4 _ (pt_3s pt_k125)) (pt_l4 (pt_3s pt_k125)) inX4 rfl 2 (by decide) kw_275 rfl rfl dX7_variable_24 ?_
    refine lv_iload_n hx hb dX7_variable_27 rfl (lv_at hl 1 rfl) ?_
    have hv28 := hw.1
    replace hw := hw.2
    refine pt_iald F hP (pt_4v (pt_3s pt_k125)) hv28 dX7_variable_28 ?_
    refine W.widen (k := 1) (n := 6) (Nat.le_of_ble_eq_true rfl) (Nat.le_of_ble_eq_true rfl) ?_
    refine vx_ret ?_
    exact W.iret (v := (M_3 ((125 + 1) + 3) (Int32.toNatClampNeg p1))) hx hb hr (fun t ht hW => ⟨⟨(M_3 ((125 + 1) + 3) (Int32.toNatClampNeg p1)), M_3, rfl, hw, by unfold pt_B; rw [ht]; exact hP⟩, hS.F ht⟩) hS.2.2 dX7_variable_29
  · replace hw := hw.2 hc6
    exact px_thr F hst (by decide) kw_482 kw_75 vatRX7_202 vgdRX7_202 hZ hS hl.1 dX7_variable_9 dX7_variable_12 dX7_variable_13 dX7_variable_16 hout (Nat.le_of_ble_eq_true rfl) (Nat.le_of_ble_eq_true rfl) (Nat.le_of_ble_eq_true rfl) (Nat.le_of_ble_eq_true rfl) hlocks hw (Nat.le_of_ble_eq_true rfl) (Nat.le_of_ble_eq_true rfl)
-- ===== X7_fired
def wpVX7_fired (E : String → Prop) (p1 : Int32) (M : pt_M) (Q : Int32 → pt_M → Prop) : Prop :=
  wpVX7_checkTransition E p1 M (fun (M_2 : pt_M) => vp_in p1 30 ∧ (Q (M_2 (125 + 5) (Int32.toNatClampNeg p1)) M_2))
set_option maxHeartbeats 4000000 in
set_option maxRecDepth 100000 in
theorem mtVX7_fired (l : Launch) (hst : l.stackTraces = false) (D : va_G) (cA : Nat → ClassId) (ad : Nat → Nat) (hI : pt_I ad) (sz : Nat) (E : String → Prop) (p1 : Int32) (M : pt_M) (Q : Int32 → pt_M → Prop) (hw : wpVX7_fired E p1 M Q) : vx_Met l yX7_fired (Cond.code yX7_fired cX7_fired 2 (some .int) :: lw_all) ({ frames := 7, cells := 1, slots := 6, locals := 102 } : Room) (va_Pc [.ref (ad 0), .int p1] (px_P D cA ad sz M)) (va_Qi Q (pt_B D cA ad) (pt_fr ad sz)) (px_E E ad sz) 1 6 (pt_fr ad sz) := by
  refine vx_ofW (cc := cX7_fired) (maxL := 2) (ret := (some .int)) (by decide) rfl ?_
  intro p e s m args below meth c s₁ B hml hout hv
  obtain ⟨rfl, ⟨hsz, hP, hK⟩, hZ⟩ := hv
  have hx := B.exec
  have hb := B.bytes
  have hr := B.returns
  have hts0 := atoms_spec (ws := (Cond.code yX7_fired cX7_fired 2 (some .int) :: lw_all)) B.pre
  have hown : s.vm.findClass RX7 = some m.cls := findClass_of_methodNamed B.named
  have hlocks := B.notSynchronized
  subst hsz
  have F : pt_F p m c cX7_fired 2 s _ RX7 D cA := ⟨⟨hx, hb, hml, hown, fun w h => hts0 w (List.mem_cons_of_mem _ h)⟩, hK⟩
  have hD : ∀ M, va_D (pt_fr ad s.heap.size) (pt_W cA ad M) := pt_D hI (fun k h => Or.inl ⟨k, h, rfl⟩)
  have hS : va_S (pt_fr ad s.heap.size) s.heap s.heap [] := va_S.rf
  have hl := lv_entry ([.ref (ad 0), .int p1]) (n := 2) (Nat.le_of_ble_eq_true rfl)
  rw [lg_entry_eq]
  generalize (lg_sl ([.ref (ad 0), .int p1]) ++ List.replicate (2 - (lg_sl ([.ref (ad 0), .int p1])).length) Slot.unset).toArray = ls at hl ⊢
  have hl : lv_has ls 2 [(0, .ref (ad 0)), (1, .int p1)] := hl
  unfold wpVX7_fired at hw
  refine lv_aload_n hx hb dX7_fired_0 rfl (lv_at hl 0 rfl) ?_
  refine lv_iload_n hx hb dX7_fired_1 rfl (lv_at hl 1 rfl) ?_
  refine px_callv (E := E) (px_runV (n := 1) (As := [.int p1]) (rest := []) F hP hZ hS (fun q h => px_frs hS.1 q h) (pt_c7 _ pt_k0) (pt_l7 pt_k0) rfl (mtVX7_checkTransition l hst D cA ad hI _ E p1 M _ hw) kw_583 kw_580 kw_52 kw_582 kw_3 ⟨by decide, by decide, by decide +kernel⟩ ⟨rfl, rfl, (Nat.le_of_ble_eq_true rfl), (Nat.le_of_ble_eq_true rfl)⟩ rfl hl.1 rfl (Nat.le_of_ble_eq_true rfl) dX7_fired_2 ⟨(Nat.le_of_ble_eq_true rfl), (Nat.le_of_ble_eq_true rfl)⟩) hS (fun _ h => h) (fun X ce q9 H locs hE hS _ _ hce hcv hcl => px_out hout hlocks hE hS hce hcv hcl (Nat.le_of_ble_eq_true rfl) (Nat.le_of_ble_eq_true rfl)) (fun M_2 H locs hw hP hS _ _ => ?_)
  refine W.widen (k := 1) (n := 6) (Nat.le_of_ble_eq_true rfl) (Nat.le_of_ble_eq_true rfl) ?_
  refine lv_aload_n hx hb dX7_fired_5 rfl (lv_at hl 0 rfl) ?_
  refine pt_get F hP (pt_c7 _ pt_k0) (pt_l7 pt_k0) inX7 rfl 1 (by decide) kw_371 rfl rfl dX7_fired_6 ?_
  refine pt_get F hP (pt_c3 _ pt_k125) (pt_l3 pt_k125) inX3 rfl 2 (by decide) kw_294 rfl rfl dX7_fired_9 ?_
  refine lv_iload_n hx hb dX7_fired_12 rfl (lv_at hl 1 rfl) ?_
  have hv13 := hw.1
  replace hw := hw.2
  refine pt_iald F hP (pt_3f pt_k125) hv13 dX7_fired_13 ?_
  refine vx_ret ?_
  exact W.iret (v := (M_2 (125 + 5) (Int32.toNatClampNeg p1))) hx hb hr (fun t ht hW => ⟨⟨(M_2 (125 + 5) (Int32.toNatClampNeg p1)), M_2, rfl, hw, by unfold pt_B; rw [ht]; exact hP⟩, hS.F ht⟩) hS.2.2 dX7_fired_14
-- ===== X7_wouldFire
def wpVX7_wouldFire (E : String → Prop) (p1 : Int32) (M : pt_M) (Q : Int32 → pt_M → Prop) : Prop :=
  wpVX7_checkRunning E M (fun (M_1 : pt_M) => wpVX7_checkEvent E p1 M_1 (fun (M_5 : pt_M) => wpX4_copyFrom (133 + 1) (125 + 1) M_5 (fun (M_22 : pt_M) => wpX3_proceed 133 p1 M_22 (fun (r_30 : Int32) (M_30 : pt_M) => Q r_30 M_30))))
set_option maxHeartbeats 4000000 in
set_option maxRecDepth 100000 in
theorem mtVX7_wouldFire (l : Launch) (hst : l.stackTraces = false) (D : va_G) (cA : Nat → ClassId) (ad : Nat → Nat) (hI : pt_I ad) (sz : Nat) (E : String → Prop) (p1 : Int32) (M : pt_M) (Q : Int32 → pt_M → Prop) (hw : wpVX7_wouldFire E p1 M Q) : vx_Met l yX7_wouldFire (Cond.code yX7_wouldFire cX7_wouldFire 2 (some .int) :: lw_all) ({ frames := 7, cells := 2, slots := 12, locals := 141 } : Room) (va_Pc [.ref (ad 0), .int p1] (px_P D cA ad sz M)) (va_Qi Q (pt_B D cA ad) (pt_fr ad sz)) (px_E E ad sz) 2 12 (pt_fr ad sz) := by
  refine vx_ofW (cc := cX7_wouldFire) (maxL := 2) (ret := (some .int)) (by decide) rfl ?_
  intro p e s m args below meth c s₁ B hml hout hv
  obtain ⟨rfl, ⟨hsz, hP, hK⟩, hZ⟩ := hv
  have hx := B.exec
  have hb := B.bytes
  have hr := B.returns
  have hts0 := atoms_spec (ws := (Cond.code yX7_wouldFire cX7_wouldFire 2 (some .int) :: lw_all)) B.pre
  have hown : s.vm.findClass RX7 = some m.cls := findClass_of_methodNamed B.named
  have hlocks := B.notSynchronized
  subst hsz
  have F : pt_F p m c cX7_wouldFire 2 s _ RX7 D cA := ⟨⟨hx, hb, hml, hown, fun w h => hts0 w (List.mem_cons_of_mem _ h)⟩, hK⟩
  have hD : ∀ M, va_D (pt_fr ad s.heap.size) (pt_W cA ad M) := pt_D hI (fun k h => Or.inl ⟨k, h, rfl⟩)
  have hS : va_S (pt_fr ad s.heap.size) s.heap s.heap [] := va_S.rf
  have hl := lv_entry ([.ref (ad 0), .int p1]) (n := 2) (Nat.le_of_ble_eq_true rfl)
  rw [lg_entry_eq]
  generalize (lg_sl ([.ref (ad 0), .int p1]) ++ List.replicate (2 - (lg_sl ([.ref (ad 0), .int p1])).length) Slot.unset).toArray = ls at hl ⊢
  have hl : lv_has ls 2 [(0, .ref (ad 0)), (1, .int p1)] := hl
  unfold wpVX7_wouldFire at hw
  refine lv_aload_n hx hb dX7_wouldFire_0 rfl (lv_at hl 0 rfl) ?_
  refine px_callv (E := E) (px_runV (n := 0) (As := []) (rest := []) F hP hZ hS (fun q h => px_frs hS.1 q h) (pt_c7 _ pt_k0) (pt_l7 pt_k0) rfl (mtVX7_checkRunning l hst D cA ad hI _ E M _ hw) kw_831 kw_828 kw_52 kw_830 kw_21 ⟨by decide, by decide, by decide +kernel⟩ ⟨rfl, rfl, (Nat.le_of_ble_eq_true rfl), (Nat.le_of_ble_eq_true rfl)⟩ rfl hl.1 rfl (Nat.le_of_ble_eq_true rfl) dX7_wouldFire_1 ⟨(Nat.le_of_ble_eq_true rfl), (Nat.le_of_ble_eq_true rfl)⟩) hS (fun _ h => h) (fun X ce q9 H locs hE hS _ _ hce hcv hcl => px_out hout hlocks hE hS hce hcv hcl (Nat.le_of_ble_eq_true rfl) (Nat.le_of_ble_eq_true rfl)) (fun M_1 H locs hw hP hS _ _ => ?_)
  refine W.widen (k := 1) (n := 6) (Nat.le_of_ble_eq_true rfl) (Nat.le_of_ble_eq_true rfl) ?_
  refine lv_iload_n hx hb dX7_wouldFire_4 rfl (lv_at hl 1 rfl) ?_
  refine px_callv (E := E) (px_runS (n := 1) (As := [.int p1]) (rest := []) F hP hZ hS (fun q h => px_frs hS.1 q h) (mtVX7_checkEvent l hst D cA ad hI _ E p1 M_1 _ hw) kw_842 kw_840 kw_52 kw_841 ⟨by decide, by decide, by decide +kernel⟩ ⟨rfl, rfl, (Nat.le_of_ble_eq_true rfl), (Nat.le_of_ble_eq_true rfl)⟩ rfl hl.1 rfl (Nat.le_of_ble_eq_true rfl) dX7_wouldFire_5 ⟨(Nat.le_of_ble_eq_true rfl), (Nat.le_of_ble_eq_true rfl)⟩) hS (fun _ h => h) (fun X ce q9 H locs hE hS _ _ hce hcv hcl => px_out hout hlocks hE hS hce hcv hcl (Nat.le_of_ble_eq_true rfl) (Nat.le_of_ble_eq_true rfl)) (fun M_5 H locs hw hP hS _ _ => ?_)
  refine W.widen (k := 2) (n := 12) (Nat.le_of_ble_eq_true rfl) (Nat.le_of_ble_eq_true rfl) ?_
  refine lv_aload_n hx hb dX7_wouldFire_8 rfl (lv_at hl 0 rfl) ?_
  refine pt_get F hP (pt_c7 _ pt_k0) (pt_l7 pt_k0) inX7 rfl 2 (by decide) kw_372 rfl rfl dX7_wouldFire_9 ?_
  refine pt_get F hP (pt_c3 _ pt_k133) (pt_l3 pt_k133) inX3 rfl 1 (by decide) kw_292 rfl rfl dX7_wouldFire_12 ?_
  refine lv_aload_n hx hb dX7_wouldFire_15 rfl (lv_at hl 0 rfl) ?_
  refine pt_get F hP (pt_c7 _ pt_k0) (pt_l7 pt_k0) inX7 rfl 1 (by decide) kw_371 rfl rfl dX7_wouldFire_16 ?_
  refine pt_get F hP (pt_c3 _ pt_k125) (pt_l3 pt_k125) inX3 rfl 1 (by decide) kw_292 rfl rfl dX7_wouldFire_19 ?_
  refine pt_callv (pt_runV (n := 1) (As := [.ref (ad (125 + 1))]) (rest := []) F hP (pt_c4 _ (pt_3s pt_k133)) (pt_l4 (pt_3s pt_k133)) rfl (mtX4_copyFrom l D cA ad hI _ (133 + 1) (pt_3s pt_k133) (125 + 1) (pt_3s pt_k125) M_5 _ hw) kw_887 kw_884 kw_58 kw_885 kw_886 ⟨by decide, by decide, by decide +kernel⟩ ⟨rfl, rfl, Nat.le_of_ble_eq_true rfl, Nat.le_of_ble_eq_true rfl⟩ rfl hl.1 rfl (Nat.le_of_ble_eq_true rfl) dX7_wouldFire_22 ⟨Nat.le_of_ble_eq_true rfl, Nat.le_of_ble_eq_true rfl⟩) hS (fun _ h => h) (fun M_22 H locs hw hP hS _ _ => ?_)
  refine lv_aload_n hx hb dX7_wouldFire_25 rfl (lv_at hl 0 rfl) ?_
  refine pt_get F hP (pt_c7 _ pt_k0) (pt_l7 pt_k0) inX7 rfl 2 (by decide) kw_372 rfl rfl dX7_wouldFire_26 ?_
  refine lv_iload_n hx hb dX7_wouldFire_29 rfl (lv_at hl 1 rfl) ?_
  refine pt_calli (pt_runV (n := 1) (As := [.int p1]) (rest := []) F hP (pt_c3 _ pt_k133) (pt_l3 pt_k133) rfl (mtX3_proceed l D cA ad hI _ 133 pt_k133 p1 M_22 _ hw) kw_747 kw_744 kw_57 kw_745 kw_746 ⟨by decide, by decide, by decide +kernel⟩ ⟨rfl, rfl, Nat.le_of_ble_eq_true rfl, Nat.le_of_ble_eq_true rfl⟩ rfl hl.1 rfl (Nat.le_of_ble_eq_true rfl) dX7_wouldFire_30 ⟨Nat.le_of_ble_eq_true rfl, Nat.le_of_ble_eq_true rfl⟩) hS (fun _ h => h) (fun r_30 M_30 H locs hw hP hS _ _ => ?_)
  refine vx_ret ?_
  exact W.iret (v := r_30) hx hb hr (fun t ht hW => ⟨⟨r_30, M_30, rfl, hw, by unfold pt_B; rw [ht]; exact hP⟩, hS.F ht⟩) hS.2.2 dX7_wouldFire_33
-- ===== X7_wouldBe
def wpVX7_wouldBe (E : String → Prop) (p1 : Int32) (M : pt_M) (Q : Int32 → pt_M → Prop) : Prop :=
  wpVX7_checkRunning E M (fun (M_1 : pt_M) => wpVX7_checkEvent E p1 M_1 (fun (M_5 : pt_M) => wpX4_copyFrom (133 + 1) (125 + 1) M_5 (fun (M_22 : pt_M) => wpX3_proceed 133 p1 M_22 (fun (r_30 : Int32) (M_30 : pt_M) => Q (M_30 (133 + 1) 3) M_30))))
set_option maxHeartbeats 4000000 in
set_option maxRecDepth 100000 in
theorem mtVX7_wouldBe (l : Launch) (hst : l.stackTraces = false) (D : va_G) (cA : Nat → ClassId) (ad : Nat → Nat) (hI : pt_I ad) (sz : Nat) (E : String → Prop) (p1 : Int32) (M : pt_M) (Q : Int32 → pt_M → Prop) (hw : wpVX7_wouldBe E p1 M Q) : vx_Met l yX7_wouldBe (Cond.code yX7_wouldBe cX7_wouldBe 2 (some .int) :: lw_all) ({ frames := 7, cells := 2, slots := 12, locals := 141 } : Room) (va_Pc [.ref (ad 0), .int p1] (px_P D cA ad sz M)) (va_Qi Q (pt_B D cA ad) (pt_fr ad sz)) (px_E E ad sz) 2 12 (pt_fr ad sz) := by
  refine vx_ofW (cc := cX7_wouldBe) (maxL := 2) (ret := (some .int)) (by decide) rfl ?_
  intro p e s m args below meth c s₁ B hml hout hv
  obtain ⟨rfl, ⟨hsz, hP, hK⟩, hZ⟩ := hv
  have hx := B.exec
  have hb := B.bytes
  have hr := B.returns
  have hts0 := atoms_spec (ws := (Cond.code yX7_wouldBe cX7_wouldBe 2 (some .int) :: lw_all)) B.pre
  have hown : s.vm.findClass RX7 = some m.cls := findClass_of_methodNamed B.named
  have hlocks := B.notSynchronized
  subst hsz
  have F : pt_F p m c cX7_wouldBe 2 s _ RX7 D cA := ⟨⟨hx, hb, hml, hown, fun w h => hts0 w (List.mem_cons_of_mem _ h)⟩, hK⟩
  have hD : ∀ M, va_D (pt_fr ad s.heap.size) (pt_W cA ad M) := pt_D hI (fun k h => Or.inl ⟨k, h, rfl⟩)
  have hS : va_S (pt_fr ad s.heap.size) s.heap s.heap [] := va_S.rf
  have hl := lv_entry ([.ref (ad 0), .int p1]) (n := 2) (Nat.le_of_ble_eq_true rfl)
  rw [lg_entry_eq]
  generalize (lg_sl ([.ref (ad 0), .int p1]) ++ List.replicate (2 - (lg_sl ([.ref (ad 0), .int p1])).length) Slot.unset).toArray = ls at hl ⊢
  have hl : lv_has ls 2 [(0, .ref (ad 0)), (1, .int p1)] := hl
  unfold wpVX7_wouldBe at hw
  refine lv_aload_n hx hb dX7_wouldBe_0 rfl (lv_at hl 0 rfl) ?_
  refine px_callv (E := E) (px_runV (n := 0) (As := []) (rest := []) F hP hZ hS (fun q h => px_frs hS.1 q h) (pt_c7 _ pt_k0) (pt_l7 pt_k0) rfl (mtVX7_checkRunning l hst D cA ad hI _ E M _ hw) kw_831 kw_828 kw_52 kw_830 kw_21 ⟨by decide, by decide, by decide +kernel⟩ ⟨rfl, rfl, (Nat.le_of_ble_eq_true rfl), (Nat.le_of_ble_eq_true rfl)⟩ rfl hl.1 rfl (Nat.le_of_ble_eq_true rfl) dX7_wouldBe_1 ⟨(Nat.le_of_ble_eq_true rfl), (Nat.le_of_ble_eq_true rfl)⟩) hS (fun _ h => h) (fun X ce q9 H locs hE hS _ _ hce hcv hcl => px_out hout hlocks hE hS hce hcv hcl (Nat.le_of_ble_eq_true rfl) (Nat.le_of_ble_eq_true rfl)) (fun M_1 H locs hw hP hS _ _ => ?_)
  refine W.widen (k := 1) (n := 6) (Nat.le_of_ble_eq_true rfl) (Nat.le_of_ble_eq_true rfl) ?_
  refine lv_iload_n hx hb dX7_wouldBe_4 rfl (lv_at hl 1 rfl) ?_
  refine px_callv (E := E) (px_runS (n := 1) (As := [.int p1]) (rest := []) F hP hZ hS (fun q h => px_frs hS.1 q h) (mtVX7_checkEvent l hst D cA ad hI _ E p1 M_1 _ hw) kw_842 kw_840 kw_52 kw_841 ⟨by decide, by decide, by decide +kernel⟩ ⟨rfl, rfl, (Nat.le_of_ble_eq_true rfl), (Nat.le_of_ble_eq_true rfl)⟩ rfl hl.1 rfl (Nat.le_of_ble_eq_true rfl) dX7_wouldBe_5 ⟨(Nat.le_of_ble_eq_true rfl), (Nat.le_of_ble_eq_true rfl)⟩) hS (fun _ h => h) (fun X ce q9 H locs hE hS _ _ hce hcv hcl => px_out hout hlocks hE hS hce hcv hcl (Nat.le_of_ble_eq_true rfl) (Nat.le_of_ble_eq_true rfl)) (fun M_5 H locs hw hP hS _ _ => ?_)
  refine W.widen (k := 2) (n := 12) (Nat.le_of_ble_eq_true rfl) (Nat.le_of_ble_eq_true rfl) ?_
  refine lv_aload_n hx hb dX7_wouldBe_8 rfl (lv_at hl 0 rfl) ?_
  refine pt_get F hP (pt_c7 _ pt_k0) (pt_l7 pt_k0) inX7 rfl 2 (by decide) kw_372 rfl rfl dX7_wouldBe_9 ?_
  refine pt_get F hP (pt_c3 _ pt_k133) (pt_l3 pt_k133) inX3 rfl 1 (by decide) kw_292 rfl rfl dX7_wouldBe_12 ?_
  refine lv_aload_n hx hb dX7_wouldBe_15 rfl (lv_at hl 0 rfl) ?_
  refine pt_get F hP (pt_c7 _ pt_k0) (pt_l7 pt_k0) inX7 rfl 1 (by decide) kw_371 rfl rfl dX7_wouldBe_16 ?_
  refine pt_get F hP (pt_c3 _ pt_k125) (pt_l3 pt_k125) inX3 rfl 1 (by decide) kw_292 rfl rfl dX7_wouldBe_19 ?_
  refine pt_callv (pt_runV (n := 1) (As := [.ref (ad (125 + 1))]) (rest := []) F hP (pt_c4 _ (pt_3s pt_k133)) (pt_l4 (pt_3s pt_k133)) rfl (mtX4_copyFrom l D cA ad hI _ (133 + 1) (pt_3s pt_k133) (125 + 1) (pt_3s pt_k125) M_5 _ hw) kw_887 kw_884 kw_58 kw_885 kw_886 ⟨by decide, by decide, by decide +kernel⟩ ⟨rfl, rfl, Nat.le_of_ble_eq_true rfl, Nat.le_of_ble_eq_true rfl⟩ rfl hl.1 rfl (Nat.le_of_ble_eq_true rfl) dX7_wouldBe_22 ⟨Nat.le_of_ble_eq_true rfl, Nat.le_of_ble_eq_true rfl⟩) hS (fun _ h => h) (fun M_22 H locs hw hP hS _ _ => ?_)
  refine lv_aload_n hx hb dX7_wouldBe_25 rfl (lv_at hl 0 rfl) ?_
  refine pt_get F hP (pt_c7 _ pt_k0) (pt_l7 pt_k0) inX7 rfl 2 (by decide) kw_372 rfl rfl dX7_wouldBe_26 ?_
  refine lv_iload_n hx hb dX7_wouldBe_29 rfl (lv_at hl 1 rfl) ?_
  refine pt_calli (pt_runV (n := 1) (As := [.int p1]) (rest := []) F hP (pt_c3 _ pt_k133) (pt_l3 pt_k133) rfl (mtX3_proceed l D cA ad hI _ 133 pt_k133 p1 M_22 _ hw) kw_747 kw_744 kw_57 kw_745 kw_746 ⟨by decide, by decide, by decide +kernel⟩ ⟨rfl, rfl, Nat.le_of_ble_eq_true rfl, Nat.le_of_ble_eq_true rfl⟩ rfl hl.1 rfl (Nat.le_of_ble_eq_true rfl) dX7_wouldBe_30 ⟨Nat.le_of_ble_eq_true rfl, Nat.le_of_ble_eq_true rfl⟩) hS (fun _ h => h) (fun r_30 M_30 H locs hw hP hS _ _ => ?_)
  refine lv_pop hx hb dX7_wouldBe_33 rfl ?_
  refine lv_aload_n hx hb dX7_wouldBe_34 rfl (lv_at hl 0 rfl) ?_
  refine pt_get F hP (pt_c7 _ pt_k0) (pt_l7 pt_k0) inX7 rfl 2 (by decide) kw_372 rfl rfl dX7_wouldBe_35 ?_
  refine pt_get F hP (pt_c3 _ pt_k133) (pt_l3 pt_k133) inX3 rfl 1 (by decide) kw_292 rfl rfl dX7_wouldBe_38 ?_
  refine pt_get F hP (pt_c4 _ (pt_3s pt_k133)) (pt_l4 (pt_3s pt_k133)) inX4 rfl 3 (by decide) kw_279 rfl rfl dX7_wouldBe_41 ?_
  refine vx_ret ?_
  exact W.iret (v := (M_30 (133 + 1) 3)) hx hb hr (fun t ht hW => ⟨⟨(M_30 (133 + 1) 3), M_30, rfl, hw, by unfold pt_B; rw [ht]; exact hP⟩, hS.F ht⟩) hS.2.2 dX7_wouldBe_44
-- ===== X7_open
def wjVX7_open_32 (E : String → Prop) (Q : Int32 → pt_M → Prop) (R8 : Int32 → Int32 → pt_M → Prop) (x1 : Int32) (x2 : Int32) (M : pt_M) : Prop :=
  ∀ x2_32 : Int32, x2_32 = x2 + 1 → R8 x1 x2_32 M
def lbVX7_open_8 (E : String → Prop) (Q : Int32 → pt_M → Prop)  (R8 : Int32 → Int32 → pt_M → Prop) (x1 : Int32) (x2 : Int32) (M : pt_M) : Prop :=
  (10 ≤ x2 → Q x1 M) ∧ (¬ 10 ≤ x2 → wpX3_openBy 125 x2 M (fun (r_19 : Int32) (M_19 : pt_M) => (r_19 = 0 → wjVX7_open_32 E Q R8 x1 x2 M_19) ∧ (¬ r_19 = 0 → wpX7_setOf x2 M_19 (fun (r_27 : Int32) (M_27 : pt_M) => ∀ x1_31 : Int32, x1_31 = (x1 ||| r_27) → wjVX7_open_32 E Q R8 x1_31 x2 M_27))))
def lpVX7_open_8 (E : String → Prop) (Q : Int32 → pt_M → Prop)  : Nat → Int32 → Int32 → pt_M → Prop
  | 0 => fun _ _ _ => False
  | n + 1 => fun x1 x2 M => lbVX7_open_8 E Q (lpVX7_open_8 E Q n) x1 x2 M
def wpVX7_open (E : String → Prop) (M : pt_M) (Q : Int32 → pt_M → Prop) : Prop :=
  wpVX7_checkRunning E M (fun (M_1 : pt_M) => ∃ n : Nat, lpVX7_open_8 E Q n 0 0 M_1)
set_option maxHeartbeats 4000000 in
set_option maxRecDepth 100000 in
theorem mtVX7_open (l : Launch) (hst : l.stackTraces = false) (D : va_G) (cA : Nat → ClassId) (ad : Nat → Nat) (hI : pt_I ad) (sz : Nat) (E : String → Prop) (M : pt_M) (Q : Int32 → pt_M → Prop) (hw : wpVX7_open E M Q) : vx_Met l yX7_open (Cond.code yX7_open cX7_open 3 (some .int) :: lw_all) ({ frames := 7, cells := 1, slots := 6, locals := 101 } : Room) (va_Pc [.ref (ad 0)] (px_P D cA ad sz M)) (va_Qi Q (pt_B D cA ad) (pt_fr ad sz)) (px_E E ad sz) 1 6 (pt_fr ad sz) := by
  refine vx_ofW (cc := cX7_open) (maxL := 3) (ret := (some .int)) (by decide) rfl ?_
  intro p e s m args below meth c s₁ B hml hout hv
  obtain ⟨rfl, ⟨hsz, hP, hK⟩, hZ⟩ := hv
  have hx := B.exec
  have hb := B.bytes
  have hr := B.returns
  have hts0 := atoms_spec (ws := (Cond.code yX7_open cX7_open 3 (some .int) :: lw_all)) B.pre
  have hown : s.vm.findClass RX7 = some m.cls := findClass_of_methodNamed B.named
  have hlocks := B.notSynchronized
  subst hsz
  have F : pt_F p m c cX7_open 3 s _ RX7 D cA := ⟨⟨hx, hb, hml, hown, fun w h => hts0 w (List.mem_cons_of_mem _ h)⟩, hK⟩
  have hD : ∀ M, va_D (pt_fr ad s.heap.size) (pt_W cA ad M) := pt_D hI (fun k h => Or.inl ⟨k, h, rfl⟩)
  have hS : va_S (pt_fr ad s.heap.size) s.heap s.heap [] := va_S.rf
  have hl := lv_entry ([.ref (ad 0)]) (n := 3) (Nat.le_of_ble_eq_true rfl)
  rw [lg_entry_eq]
  generalize (lg_sl ([.ref (ad 0)]) ++ List.replicate (3 - (lg_sl ([.ref (ad 0)])).length) Slot.unset).toArray = ls at hl ⊢
  have hl : lv_has ls 3 [(0, .ref (ad 0))] := hl
  have L8 : ∀ (n8 : Nat) (x1 : Int32) (x2 : Int32) (M : pt_M) (H : Heap) (locs : List Loc) (ls : Array Slot), lpVX7_open_8 E Q n8 x1 x2 M → va_P D pt_cl (pt_W cA ad M) H → va_S (pt_fr ad s.heap.size) s.heap H locs → lv_has ls 3 [(0, .ref (ad 0)), (1, .int x1), (2, .int x2)] → W p l e (headSpec (Cond.code yX7_open cX7_open 3 (some .int) :: lw_all) ({ frames := 7, cells := 1, slots := 6, locals := 101 } : Room)).room s m ([.ref (ad 0)] : List Value).toArray below meth c H locs 1 6 (vx_MQ below (va_Qi Q (pt_B D cA ad) (pt_fr ad s.heap.size)) (px_E E ad s.heap.size) ([.ref (ad 0)] : List Value).toArray s 1 6 (pt_fr ad s.heap.size)) (F0 m 8 ls []) := by
    intro n8
    induction n8 with
    | zero => intro x1 x2 M H locs ls hw; exact hw.elim
    | succ n8 ih8 =>
      have J32 : ∀ (x1 : Int32) (x2 : Int32) (M : pt_M) (H : Heap) (locs : List Loc) (ls : Array Slot), wjVX7_open_32 E Q (lpVX7_open_8 E Q n8) x1 x2 M → va_P D pt_cl (pt_W cA ad M) H → va_S (pt_fr ad s.heap.size) s.heap H locs → lv_has ls 3 [(0, .ref (ad 0)), (1, .int x1), (2, .int x2)] → W p l e (headSpec (Cond.code yX7_open cX7_open 3 (some .int) :: lw_all) ({ frames := 7, cells := 1, slots := 6, locals := 101 } : Room)).room s m ([.ref (ad 0)] : List Value).toArray below meth c H locs 1 6 (vx_MQ below (va_Qi Q (pt_B D cA ad) (pt_fr ad s.heap.size)) (px_E E ad s.heap.size) ([.ref (ad 0)] : List Value).toArray s 1 6 (pt_fr ad s.heap.size)) (F0 m 32 ls []) := by
        intro x1 x2 M H locs ls hw hP hS hl
        unfold wjVX7_open_32 at hw
        obtain ⟨x2_32, ex2_32⟩ : ∃ y : Int32, y = x2 + 1 := ⟨_, rfl⟩
        replace hw := hw x2_32 ex2_32
        refine lv_iinc (v := x2_32) (lv' := [(2, .int x2_32), (0, .ref (ad 0)), (1, .int x1)]) hx hb dX7_open_32 hl (k := 2) rfl (by rw [ex2_32]; rfl) (by decide) rfl (fun ls hl => ?_)
        refine lv_goto (tgt := 8) hx hb dX7_open_35 (by decide) ?_
        exact ih8 x1 x2_32 M _ _ _ hw hP hS (lv_sub hl [1, 2, 0] rfl)
      intro x1 x2 M H locs ls hw hP hS hl
      replace hw : lbVX7_open_8 E Q (lpVX7_open_8 E Q n8) x1 x2 M := hw
      unfold lbVX7_open_8 at hw
      refine lv_iload_n hx hb dX7_open_8 rfl (lv_at hl 2 rfl) ?_
      refine lv_bipush (v := 10) hx hb dX7_open_9 (by decide) ?_
      refine lv_icmp_ge (tgt := 38) hx hb dX7_open_11 (by decide) (fun hc11 => ?_) (fun hc11 => ?_)
      · replace hw := hw.1 hc11
        refine lv_iload_n hx hb dX7_open_38 rfl (lv_at hl 1 rfl) ?_
        refine vx_ret ?_
        exact W.iret (v := x1) hx hb hr (fun t ht hW => ⟨⟨x1, M, rfl, hw, by unfold pt_B; rw [ht]; exact hP⟩, hS.F ht⟩) hS.2.2 dX7_open_39
      · replace hw := hw.2 hc11
        refine lv_aload_n hx hb dX7_open_14 rfl (lv_at hl 0 rfl) ?_
        refine pt_get F hP (pt_c7 _ pt_k0) (pt_l7 pt_k0) inX7 rfl 1 (by decide) kw_371 rfl rfl dX7_open_15 ?_
        refine lv_iload_n hx hb dX7_open_18 rfl (lv_at hl 2 rfl) ?_
        refine pt_calli (pt_runV (n := 1) (As := [.int x2]) (rest := []) F hP (pt_c3 _ pt_k125) (pt_l3 pt_k125) rfl (mtX3_openBy l D cA ad hI _ 125 pt_k125 x2 M _ hw) kw_764 kw_905 kw_57 kw_762 kw_763 ⟨by decide, by decide, by decide +kernel⟩ ⟨rfl, rfl, Nat.le_of_ble_eq_true rfl, Nat.le_of_ble_eq_true rfl⟩ rfl hl.1 rfl (Nat.le_of_ble_eq_true rfl) dX7_open_19 ⟨Nat.le_of_ble_eq_true rfl, Nat.le_of_ble_eq_true rfl⟩) hS (fun _ h => h) (fun r_19 M_19 H locs hw hP hS _ _ => ?_)
        refine lv_if_eq (tgt := 32) hx hb dX7_open_22 (by decide) (fun hc22 => ?_) (fun hc22 => ?_)
        · replace hw := hw.1 hc22
          exact J32 x1 x2 M_19 _ _ _ hw hP hS (lv_sub hl [0, 1, 2] rfl)
        · replace hw := hw.2 hc22
          refine lv_iload_n hx hb dX7_open_25 rfl (lv_at hl 1 rfl) ?_
          refine lv_iload_n hx hb dX7_open_26 rfl (lv_at hl 2 rfl) ?_
          refine pt_calli (pt_runS (n := 1) (As := [.int x2]) (rest := [.int x1]) F hP (mtX7_setOf l D cA ad hI _ x2 M_19 _ hw) kw_103 kw_715 kw_52 kw_102 ⟨by decide, by decide, by decide +kernel⟩ ⟨rfl, rfl, Nat.le_of_ble_eq_true rfl, Nat.le_of_ble_eq_true rfl⟩ rfl hl.1 rfl (Nat.le_of_ble_eq_true rfl) dX7_open_27 ⟨Nat.le_of_ble_eq_true rfl, Nat.le_of_ble_eq_true rfl⟩) hS (fun _ h => h) (fun r_27 M_27 H locs hw hP hS _ _ => ?_)
          refine lv_ior hx hb dX7_open_30 ?_
          refine lv_topi (fun x1_31 ex1_31 => ?_)
          replace hw := hw x1_31 ex1_31
          refine lv_istore_n (lv' := [(1, .int x1_31), (0, .ref (ad 0)), (2, .int x2)]) hx hb dX7_open_31 rfl hl (by decide) rfl (fun ls hl => ?_)
          exact J32 x1_31 x2 M_27 _ _ _ hw hP hS (lv_sub hl [1, 0, 2] rfl)
  unfold wpVX7_open at hw
  refine lv_aload_n hx hb dX7_open_0 rfl (lv_at hl 0 rfl) ?_
  refine px_callv (E := E) (px_runV (n := 0) (As := []) (rest := []) F hP hZ hS (fun q h => px_frs hS.1 q h) (pt_c7 _ pt_k0) (pt_l7 pt_k0) rfl (mtVX7_checkRunning l hst D cA ad hI _ E M _ hw) kw_831 kw_828 kw_52 kw_830 kw_21 ⟨by decide, by decide, by decide +kernel⟩ ⟨rfl, rfl, (Nat.le_of_ble_eq_true rfl), (Nat.le_of_ble_eq_true rfl)⟩ rfl hl.1 rfl (Nat.le_of_ble_eq_true rfl) dX7_open_1 ⟨(Nat.le_of_ble_eq_true rfl), (Nat.le_of_ble_eq_true rfl)⟩) hS (fun _ h => h) (fun X ce q9 H locs hE hS _ _ hce hcv hcl => px_out hout hlocks hE hS hce hcv hcl (Nat.le_of_ble_eq_true rfl) (Nat.le_of_ble_eq_true rfl)) (fun M_1 H locs hw hP hS _ _ => ?_)
  refine W.widen (k := 1) (n := 6) (Nat.le_of_ble_eq_true rfl) (Nat.le_of_ble_eq_true rfl) ?_
  refine lv_iconst (v := 0) hx hb dX7_open_4 (by decide) ?_
  refine lv_istore_n (lv' := [(1, .int 0), (0, .ref (ad 0))]) hx hb dX7_open_5 rfl hl (by decide) rfl (fun ls hl => ?_)
  refine lv_iconst (v := 0) hx hb dX7_open_6 (by decide) ?_
  refine lv_istore_n (lv' := [(2, .int 0), (1, .int 0), (0, .ref (ad 0))]) hx hb dX7_open_7 rfl hl (by decide) rfl (fun ls hl => ?_)
  obtain ⟨n_, hw⟩ := hw
  exact L8 n_ 0 0 M_1 _ _ _ hw hP hS (lv_sub hl [2, 1, 0] rfl)
-- ===== X7_rowTo
def wpVX7_rowTo (E : String → Prop) (p1 : Int32) (p2 : Int32) (M : pt_M) (Q : Int32 → pt_M → Prop) : Prop :=
  wpVX7_checkRunning E M (fun (M_1 : pt_M) => wpVX7_checkState E p1 M_1 (fun (M_6 : pt_M) => wpVX7_checkMost E p2 M_6 (fun (M_10 : pt_M) => wpX2_search (125 + 1) p1 (-1) p2 M_10 (fun (r_27 : Int32) (M_27 : pt_M) => Q r_27 M_27))))
set_option maxHeartbeats 4000000 in
set_option maxRecDepth 100000 in
theorem mtVX7_rowTo (l : Launch) (hst : l.stackTraces = false) (D : va_G) (cA : Nat → ClassId) (ad : Nat → Nat) (hI : pt_I ad) (sz : Nat) (E : String → Prop) (p1 : Int32) (p2 : Int32) (M : pt_M) (Q : Int32 → pt_M → Prop) (hw : wpVX7_rowTo E p1 p2 M Q) : vx_Met l yX7_rowTo (Cond.code yX7_rowTo cX7_rowTo 3 (some .int) :: lw_all) ({ frames := 7, cells := 3, slots := 18, locals := 167 } : Room) (va_Pc [.ref (ad 0), .int p1, .int p2] (px_P D cA ad sz M)) (va_Qi Q (pt_B D cA ad) (pt_fr ad sz)) (px_E E ad sz) 3 18 (pt_fr ad sz) := by
  refine vx_ofW (cc := cX7_rowTo) (maxL := 3) (ret := (some .int)) (by decide) rfl ?_
  intro p e s m args below meth c s₁ B hml hout hv
  obtain ⟨rfl, ⟨hsz, hP, hK⟩, hZ⟩ := hv
  have hx := B.exec
  have hb := B.bytes
  have hr := B.returns
  have hts0 := atoms_spec (ws := (Cond.code yX7_rowTo cX7_rowTo 3 (some .int) :: lw_all)) B.pre
  have hown : s.vm.findClass RX7 = some m.cls := findClass_of_methodNamed B.named
  have hlocks := B.notSynchronized
  subst hsz
  have F : pt_F p m c cX7_rowTo 3 s _ RX7 D cA := ⟨⟨hx, hb, hml, hown, fun w h => hts0 w (List.mem_cons_of_mem _ h)⟩, hK⟩
  have hD : ∀ M, va_D (pt_fr ad s.heap.size) (pt_W cA ad M) := pt_D hI (fun k h => Or.inl ⟨k, h, rfl⟩)
  have hS : va_S (pt_fr ad s.heap.size) s.heap s.heap [] := va_S.rf
  have hl := lv_entry ([.ref (ad 0), .int p1, .int p2]) (n := 3) (Nat.le_of_ble_eq_true rfl)
  rw [lg_entry_eq]
  generalize (lg_sl ([.ref (ad 0), .int p1, .int p2]) ++ List.replicate (3 - (lg_sl ([.ref (ad 0), .int p1, .int p2])).length) Slot.unset).toArray = ls at hl ⊢
  have hl : lv_has ls 3 [(0, .ref (ad 0)), (1, .int p1), (2, .int p2)] := hl
  unfold wpVX7_rowTo at hw
  refine lv_aload_n hx hb dX7_rowTo_0 rfl (lv_at hl 0 rfl) ?_
  refine px_callv (E := E) (px_runV (n := 0) (As := []) (rest := []) F hP hZ hS (fun q h => px_frs hS.1 q h) (pt_c7 _ pt_k0) (pt_l7 pt_k0) rfl (mtVX7_checkRunning l hst D cA ad hI _ E M _ hw) kw_831 kw_828 kw_52 kw_830 kw_21 ⟨by decide, by decide, by decide +kernel⟩ ⟨rfl, rfl, (Nat.le_of_ble_eq_true rfl), (Nat.le_of_ble_eq_true rfl)⟩ rfl hl.1 rfl (Nat.le_of_ble_eq_true rfl) dX7_rowTo_1 ⟨(Nat.le_of_ble_eq_true rfl), (Nat.le_of_ble_eq_true rfl)⟩) hS (fun _ h => h) (fun X ce q9 H locs hE hS _ _ hce hcv hcl => px_out hout hlocks hE hS hce hcv hcl (Nat.le_of_ble_eq_true rfl) (Nat.le_of_ble_eq_true rfl)) (fun M_1 H locs hw hP hS _ _ => ?_)
  refine W.widen (k := 1) (n := 6) (Nat.le_of_ble_eq_true rfl) (Nat.le_of_ble_eq_true rfl) ?_
  refine lv_aload_n hx hb dX7_rowTo_4 rfl (lv_at hl 0 rfl) ?_
  refine lv_iload_n hx hb dX7_rowTo_5 rfl (lv_at hl 1 rfl) ?_
  refine px_callv (E := E) (px_runV (n := 1) (As := [.int p1]) (rest := []) F hP hZ hS (fun q h => px_frs hS.1 q h) (pt_c7 _ pt_k0) (pt_l7 pt_k0) rfl (mtVX7_checkState l hst D cA ad hI _ E p1 M_1 _ hw) kw_481 kw_478 kw_52 kw_480 kw_1 ⟨by decide, by decide, by decide +kernel⟩ ⟨rfl, rfl, (Nat.le_of_ble_eq_true rfl), (Nat.le_of_ble_eq_true rfl)⟩ rfl hl.1 rfl (Nat.le_of_ble_eq_true rfl) dX7_rowTo_6 ⟨(Nat.le_of_ble_eq_true rfl), (Nat.le_of_ble_eq_true rfl)⟩) hS (fun _ h => h) (fun X ce q9 H locs hE hS _ _ hce hcv hcl => px_out hout hlocks hE hS hce hcv hcl (Nat.le_of_ble_eq_true rfl) (Nat.le_of_ble_eq_true rfl)) (fun M_6 H locs hw hP hS _ _ => ?_)
  refine W.widen (k := 2) (n := 12) (Nat.le_of_ble_eq_true rfl) (Nat.le_of_ble_eq_true rfl) ?_
  refine lv_iload_n hx hb dX7_rowTo_9 rfl (lv_at hl 2 rfl) ?_
  refine px_callv (E := E) (px_runS (n := 1) (As := [.int p2]) (rest := []) F hP hZ hS (fun q h => px_frs hS.1 q h) (mtVX7_checkMost l hst D cA ad hI _ E p2 M_6 _ hw) kw_915 kw_913 kw_52 kw_914 ⟨by decide, by decide, by decide +kernel⟩ ⟨rfl, rfl, (Nat.le_of_ble_eq_true rfl), (Nat.le_of_ble_eq_true rfl)⟩ rfl hl.1 rfl (Nat.le_of_ble_eq_true rfl) dX7_rowTo_10 ⟨(Nat.le_of_ble_eq_true rfl), (Nat.le_of_ble_eq_true rfl)⟩) hS (fun _ h => h) (fun X ce q9 H locs hE hS _ _ hce hcv hcl => px_out hout hlocks hE hS hce hcv hcl (Nat.le_of_ble_eq_true rfl) (Nat.le_of_ble_eq_true rfl)) (fun M_10 H locs hw hP hS _ _ => ?_)
  refine W.widen (k := 3) (n := 18) (Nat.le_of_ble_eq_true rfl) (Nat.le_of_ble_eq_true rfl) ?_
  refine lv_aload_n hx hb dX7_rowTo_13 rfl (lv_at hl 0 rfl) ?_
  refine pt_get F hP (pt_c7 _ pt_k0) (pt_l7 pt_k0) inX7 rfl 3 (by decide) kw_373 rfl rfl dX7_rowTo_14 ?_
  refine lv_aload_n hx hb dX7_rowTo_17 rfl (lv_at hl 0 rfl) ?_
  refine pt_get F hP (pt_c7 _ pt_k0) (pt_l7 pt_k0) inX7 rfl 1 (by decide) kw_371 rfl rfl dX7_rowTo_18 ?_
  refine pt_get F hP (pt_c3 _ pt_k125) (pt_l3 pt_k125) inX3 rfl 1 (by decide) kw_292 rfl rfl dX7_rowTo_21 ?_
  refine lv_iload_n hx hb dX7_rowTo_24 rfl (lv_at hl 1 rfl) ?_
  refine lv_iconst (v := (-1)) hx hb dX7_rowTo_25 (by decide) ?_
  refine lv_iload_n hx hb dX7_rowTo_26 rfl (lv_at hl 2 rfl) ?_
  refine pt_calli (pt_runV (n := 4) (As := [.ref (ad (125 + 1)), .int p1, .int (-1), .int p2]) (rest := []) F hP (pt_c2 _ pt_k141) (pt_l2 pt_k141) rfl (mtX2_search l D cA ad hI _ (125 + 1) (pt_3s pt_k125) p1 (-1) p2 M_10 _ hw) kw_919 kw_916 kw_59 kw_917 kw_918 ⟨by decide, by decide, by decide +kernel⟩ ⟨rfl, rfl, Nat.le_of_ble_eq_true rfl, Nat.le_of_ble_eq_true rfl⟩ rfl hl.1 rfl (Nat.le_of_ble_eq_true rfl) dX7_rowTo_27 ⟨Nat.le_of_ble_eq_true rfl, Nat.le_of_ble_eq_true rfl⟩) hS (fun _ h => h) (fun r_27 M_27 H locs hw hP hS _ _ => ?_)
  refine vx_ret ?_
  exact W.iret (v := r_27) hx hb hr (fun t ht hW => ⟨⟨r_27, M_27, rfl, hw, by unfold pt_B; rw [ht]; exact hP⟩, hS.F ht⟩) hS.2.2 dX7_rowTo_30
-- ===== X7_rowFor
def wpVX7_rowFor (E : String → Prop) (p1 : Int32) (p2 : Int32) (M : pt_M) (Q : Int32 → pt_M → Prop) : Prop :=
  wpVX7_checkRunning E M (fun (M_1 : pt_M) => wpVX7_checkTransition E p1 M_1 (fun (M_6 : pt_M) => wpVX7_checkMost E p2 M_6 (fun (M_10 : pt_M) => wpX2_search (125 + 1) (-1) p1 p2 M_10 (fun (r_27 : Int32) (M_27 : pt_M) => Q r_27 M_27))))
set_option maxHeartbeats 4000000 in
set_option maxRecDepth 100000 in
theorem mtVX7_rowFor (l : Launch) (hst : l.stackTraces = false) (D : va_G) (cA : Nat → ClassId) (ad : Nat → Nat) (hI : pt_I ad) (sz : Nat) (E : String → Prop) (p1 : Int32) (p2 : Int32) (M : pt_M) (Q : Int32 → pt_M → Prop) (hw : wpVX7_rowFor E p1 p2 M Q) : vx_Met l yX7_rowFor (Cond.code yX7_rowFor cX7_rowFor 3 (some .int) :: lw_all) ({ frames := 7, cells := 3, slots := 18, locals := 167 } : Room) (va_Pc [.ref (ad 0), .int p1, .int p2] (px_P D cA ad sz M)) (va_Qi Q (pt_B D cA ad) (pt_fr ad sz)) (px_E E ad sz) 3 18 (pt_fr ad sz) := by
  refine vx_ofW (cc := cX7_rowFor) (maxL := 3) (ret := (some .int)) (by decide) rfl ?_
  intro p e s m args below meth c s₁ B hml hout hv
  obtain ⟨rfl, ⟨hsz, hP, hK⟩, hZ⟩ := hv
  have hx := B.exec
  have hb := B.bytes
  have hr := B.returns
  have hts0 := atoms_spec (ws := (Cond.code yX7_rowFor cX7_rowFor 3 (some .int) :: lw_all)) B.pre
  have hown : s.vm.findClass RX7 = some m.cls := findClass_of_methodNamed B.named
  have hlocks := B.notSynchronized
  subst hsz
  have F : pt_F p m c cX7_rowFor 3 s _ RX7 D cA := ⟨⟨hx, hb, hml, hown, fun w h => hts0 w (List.mem_cons_of_mem _ h)⟩, hK⟩
  have hD : ∀ M, va_D (pt_fr ad s.heap.size) (pt_W cA ad M) := pt_D hI (fun k h => Or.inl ⟨k, h, rfl⟩)
  have hS : va_S (pt_fr ad s.heap.size) s.heap s.heap [] := va_S.rf
  have hl := lv_entry ([.ref (ad 0), .int p1, .int p2]) (n := 3) (Nat.le_of_ble_eq_true rfl)
  rw [lg_entry_eq]
  generalize (lg_sl ([.ref (ad 0), .int p1, .int p2]) ++ List.replicate (3 - (lg_sl ([.ref (ad 0), .int p1, .int p2])).length) Slot.unset).toArray = ls at hl ⊢
  have hl : lv_has ls 3 [(0, .ref (ad 0)), (1, .int p1), (2, .int p2)] := hl
  unfold wpVX7_rowFor at hw
  refine lv_aload_n hx hb dX7_rowFor_0 rfl (lv_at hl 0 rfl) ?_
  refine px_callv (E := E) (px_runV (n := 0) (As := []) (rest := []) F hP hZ hS (fun q h => px_frs hS.1 q h) (pt_c7 _ pt_k0) (pt_l7 pt_k0) rfl (mtVX7_checkRunning l hst D cA ad hI _ E M _ hw) kw_831 kw_828 kw_52 kw_830 kw_21 ⟨by decide, by decide, by decide +kernel⟩ ⟨rfl, rfl, (Nat.le_of_ble_eq_true rfl), (Nat.le_of_ble_eq_true rfl)⟩ rfl hl.1 rfl (Nat.le_of_ble_eq_true rfl) dX7_rowFor_1 ⟨(Nat.le_of_ble_eq_true rfl), (Nat.le_of_ble_eq_true rfl)⟩) hS (fun _ h => h) (fun X ce q9 H locs hE hS _ _ hce hcv hcl => px_out hout hlocks hE hS hce hcv hcl (Nat.le_of_ble_eq_true rfl) (Nat.le_of_ble_eq_true rfl)) (fun M_1 H locs hw hP hS _ _ => ?_)
  refine W.widen (k := 1) (n := 6) (Nat.le_of_ble_eq_true rfl) (Nat.le_of_ble_eq_true rfl) ?_
  refine lv_aload_n hx hb dX7_rowFor_4 rfl (lv_at hl 0 rfl) ?_
  refine lv_iload_n hx hb dX7_rowFor_5 rfl (lv_at hl 1 rfl) ?_
  refine px_callv (E := E) (px_runV (n := 1) (As := [.int p1]) (rest := []) F hP hZ hS (fun q h => px_frs hS.1 q h) (pt_c7 _ pt_k0) (pt_l7 pt_k0) rfl (mtVX7_checkTransition l hst D cA ad hI _ E p1 M_1 _ hw) kw_583 kw_580 kw_52 kw_582 kw_3 ⟨by decide, by decide, by decide +kernel⟩ ⟨rfl, rfl, (Nat.le_of_ble_eq_true rfl), (Nat.le_of_ble_eq_true rfl)⟩ rfl hl.1 rfl (Nat.le_of_ble_eq_true rfl) dX7_rowFor_6 ⟨(Nat.le_of_ble_eq_true rfl), (Nat.le_of_ble_eq_true rfl)⟩) hS (fun _ h => h) (fun X ce q9 H locs hE hS _ _ hce hcv hcl => px_out hout hlocks hE hS hce hcv hcl (Nat.le_of_ble_eq_true rfl) (Nat.le_of_ble_eq_true rfl)) (fun M_6 H locs hw hP hS _ _ => ?_)
  refine W.widen (k := 2) (n := 12) (Nat.le_of_ble_eq_true rfl) (Nat.le_of_ble_eq_true rfl) ?_
  refine lv_iload_n hx hb dX7_rowFor_9 rfl (lv_at hl 2 rfl) ?_
  refine px_callv (E := E) (px_runS (n := 1) (As := [.int p2]) (rest := []) F hP hZ hS (fun q h => px_frs hS.1 q h) (mtVX7_checkMost l hst D cA ad hI _ E p2 M_6 _ hw) kw_915 kw_913 kw_52 kw_914 ⟨by decide, by decide, by decide +kernel⟩ ⟨rfl, rfl, (Nat.le_of_ble_eq_true rfl), (Nat.le_of_ble_eq_true rfl)⟩ rfl hl.1 rfl (Nat.le_of_ble_eq_true rfl) dX7_rowFor_10 ⟨(Nat.le_of_ble_eq_true rfl), (Nat.le_of_ble_eq_true rfl)⟩) hS (fun _ h => h) (fun X ce q9 H locs hE hS _ _ hce hcv hcl => px_out hout hlocks hE hS hce hcv hcl (Nat.le_of_ble_eq_true rfl) (Nat.le_of_ble_eq_true rfl)) (fun M_10 H locs hw hP hS _ _ => ?_)
  refine W.widen (k := 3) (n := 18) (Nat.le_of_ble_eq_true rfl) (Nat.le_of_ble_eq_true rfl) ?_
  refine lv_aload_n hx hb dX7_rowFor_13 rfl (lv_at hl 0 rfl) ?_
  refine pt_get F hP (pt_c7 _ pt_k0) (pt_l7 pt_k0) inX7 rfl 3 (by decide) kw_373 rfl rfl dX7_rowFor_14 ?_
  refine lv_aload_n hx hb dX7_rowFor_17 rfl (lv_at hl 0 rfl) ?_
  refine pt_get F hP (pt_c7 _ pt_k0) (pt_l7 pt_k0) inX7 rfl 1 (by decide) kw_371 rfl rfl dX7_rowFor_18 ?_
  refine pt_get F hP (pt_c3 _ pt_k125) (pt_l3 pt_k125) inX3 rfl 1 (by decide) kw_292 rfl rfl dX7_rowFor_21 ?_
  refine lv_iconst (v := (-1)) hx hb dX7_rowFor_24 (by decide) ?_
  refine lv_iload_n hx hb dX7_rowFor_25 rfl (lv_at hl 1 rfl) ?_
  refine lv_iload_n hx hb dX7_rowFor_26 rfl (lv_at hl 2 rfl) ?_
  refine pt_calli (pt_runV (n := 4) (As := [.ref (ad (125 + 1)), .int (-1), .int p1, .int p2]) (rest := []) F hP (pt_c2 _ pt_k141) (pt_l2 pt_k141) rfl (mtX2_search l D cA ad hI _ (125 + 1) (pt_3s pt_k125) (-1) p1 p2 M_10 _ hw) kw_919 kw_916 kw_59 kw_917 kw_918 ⟨by decide, by decide, by decide +kernel⟩ ⟨rfl, rfl, Nat.le_of_ble_eq_true rfl, Nat.le_of_ble_eq_true rfl⟩ rfl hl.1 rfl (Nat.le_of_ble_eq_true rfl) dX7_rowFor_27 ⟨Nat.le_of_ble_eq_true rfl, Nat.le_of_ble_eq_true rfl⟩) hS (fun _ h => h) (fun r_27 M_27 H locs hw hP hS _ _ => ?_)
  refine vx_ret ?_
  exact W.iret (v := r_27) hx hb hr (fun t ht hW => ⟨⟨r_27, M_27, rfl, hw, by unfold pt_B; rw [ht]; exact hP⟩, hS.F ht⟩) hS.2.2 dX7_rowFor_30
