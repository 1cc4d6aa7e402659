-- ===== X7_checkResting
def wpVX7_checkResting (E : String → Prop) (M : pt_M) (Q : pt_M → Prop) : Prop :=
  ((M 0 4) = 0 → Q M) ∧ (¬ (M 0 4) = 0 → E "java/lang/IllegalStateException")
set_option maxHeartbeats 4000000 in
set_option maxRecDepth 100000 in
theorem mtVX7_checkResting (l : Launch) (hst : l.stackTraces = false) (D : va_G) (cA : Nat → ClassId) (ad : Nat → Nat) (hI : pt_I ad) (sz : Nat) (E : String → Prop) (M : pt_M) (Q : pt_M → Prop) (hw : wpVX7_checkResting E M Q) : vx_Met l yX7_checkResting (Cond.code yX7_checkResting cX7_checkResting 1 none :: lw_all) ({ frames := 6, cells := 1, slots := 6, locals := 81 } : Room) (va_Pc [.ref (ad 0)] (px_P D cA ad sz M)) (va_Qv Q (pt_B D cA ad) (pt_fr ad sz)) (px_E E ad sz) 1 6 (pt_fr ad sz) := by
  refine vx_ofW (cc := cX7_checkResting) (maxL := 1) (ret := none) (by decide) rfl ?_
  intro p e s m args below meth c s₁ B hml hout hv
  obtain ⟨rfl, ⟨hsz, hP, hK⟩, hZ⟩ := hv
  have hx := B.exec
  have hb := B.bytes
  have hr := B.returns
  have hts0 := atoms_spec (ws := (Cond.code yX7_checkResting cX7_checkResting 1 none :: lw_all)) B.pre
  have hown : s.vm.findClass RX7 = some m.cls := findClass_of_methodNamed B.named
  have hlocks := B.notSynchronized
  subst hsz
  have F : pt_F p m c cX7_checkResting 1 s _ RX7 D cA := ⟨⟨hx, hb, hml, hown, fun w h => hts0 w (List.mem_cons_of_mem _ h)⟩, hK⟩
  have hD : ∀ M, va_D (pt_fr ad s.heap.size) (pt_W cA ad M) := pt_D hI (fun k h => Or.inl ⟨k, h, rfl⟩)
  have hS : va_S (pt_fr ad s.heap.size) s.heap s.heap [] := va_S.rf
  have hl := lv_entry ([.ref (ad 0)]) (n := 1) (Nat.le_of_ble_eq_true rfl)
  rw [lg_entry_eq]
  generalize (lg_sl ([.ref (ad 0)]) ++ List.replicate (1 - (lg_sl ([.ref (ad 0)])).length) Slot.unset).toArray = ls at hl ⊢
  have hl : lv_has ls 1 [(0, .ref (ad 0))] := hl
  unfold wpVX7_checkResting at hw
  refine lv_aload_n hx hb dX7_checkResting_0 rfl (lv_at hl 0 rfl) ?_
  refine pt_get F hP (pt_c7 _ pt_k0) (pt_l7 pt_k0) inX7 rfl 4 (by decide) kw_374 rfl rfl dX7_checkResting_1 ?_
  refine lv_if_eq (tgt := 15) hx hb dX7_checkResting_4 (by decide) (fun hc4 => ?_) (fun hc4 => ?_)
  · replace hw := hw.1 hc4
    refine W.widen (k := 1) (n := 6) (Nat.le_of_ble_eq_true rfl) (Nat.le_of_ble_eq_true rfl) ?_
    refine vx_ret ?_
    exact W.vret hx hb hr (fun t ht hW => ⟨⟨M, rfl, hw, by unfold pt_B; rw [ht]; exact hP⟩, hS.F ht⟩) hS.2.2 dX7_checkResting_15
  · replace hw := hw.2 hc4
    exact px_thr F hst (by decide) kw_595 kw_74 vatRX7_47 vgdRX7_47 hZ hS hl.1 dX7_checkResting_7 dX7_checkResting_10 dX7_checkResting_11 dX7_checkResting_14 hout (Nat.le_of_ble_eq_true rfl) (Nat.le_of_ble_eq_true rfl) (Nat.le_of_ble_eq_true rfl) (Nat.le_of_ble_eq_true rfl) hlocks hw (Nat.le_of_ble_eq_true rfl) (Nat.le_of_ble_eq_true rfl)
-- ===== X7_checkRunning
def wpVX7_checkRunning (E : String → Prop) (M : pt_M) (Q : pt_M → Prop) : Prop :=
  (¬ (M 0 4) = 0 → Q M) ∧ ((M 0 4) = 0 → E "java/lang/IllegalStateException")
set_option maxHeartbeats 4000000 in
set_option maxRecDepth 100000 in
theorem mtVX7_checkRunning (l : Launch) (hst : l.stackTraces = false) (D : va_G) (cA : Nat → ClassId) (ad : Nat → Nat) (hI : pt_I ad) (sz : Nat) (E : String → Prop) (M : pt_M) (Q : pt_M → Prop) (hw : wpVX7_checkRunning E M Q) : vx_Met l yX7_checkRunning (Cond.code yX7_checkRunning cX7_checkRunning 1 none :: lw_all) ({ frames := 6, cells := 1, slots := 6, locals := 81 } : Room) (va_Pc [.ref (ad 0)] (px_P D cA ad sz M)) (va_Qv Q (pt_B D cA ad) (pt_fr ad sz)) (px_E E ad sz) 1 6 (pt_fr ad sz) := by
  refine vx_ofW (cc := cX7_checkRunning) (maxL := 1) (ret := none) (by decide) rfl ?_
  intro p e s m args below meth c s₁ B hml hout hv
  obtain ⟨rfl, ⟨hsz, hP, hK⟩, hZ⟩ := hv
  have hx := B.exec
  have hb := B.bytes
  have hr := B.returns
  have hts0 := atoms_spec (ws := (Cond.code yX7_checkRunning cX7_checkRunning 1 none :: lw_all)) B.pre
  have hown : s.vm.findClass RX7 = some m.cls := findClass_of_methodNamed B.named
  have hlocks := B.notSynchronized
  subst hsz
  have F : pt_F p m c cX7_checkRunning 1 s _ RX7 D cA := ⟨⟨hx, hb, hml, hown, fun w h => hts0 w (List.mem_cons_of_mem _ h)⟩, hK⟩
  have hD : ∀ M, va_D (pt_fr ad s.heap.size) (pt_W cA ad M) := pt_D hI (fun k h => Or.inl ⟨k, h, rfl⟩)
  have hS : va_S (pt_fr ad s.heap.size) s.heap s.heap [] := va_S.rf
  have hl := lv_entry ([.ref (ad 0)]) (n := 1) (Nat.le_of_ble_eq_true rfl)
  rw [lg_entry_eq]
  generalize (lg_sl ([.ref (ad 0)]) ++ List.replicate (1 - (lg_sl ([.ref (ad 0)])).length) Slot.unset).toArray = ls at hl ⊢
  have hl : lv_has ls 1 [(0, .ref (ad 0))] := hl
  unfold wpVX7_checkRunning at hw
  refine lv_aload_n hx hb dX7_checkRunning_0 rfl (lv_at hl 0 rfl) ?_
  refine pt_get F hP (pt_c7 _ pt_k0) (pt_l7 pt_k0) inX7 rfl 4 (by decide) kw_374 rfl rfl dX7_checkRunning_1 ?_
  refine lv_if_ne (tgt := 15) hx hb dX7_checkRunning_4 (by decide) (fun hc4 => ?_) (fun hc4 => ?_)
  · replace hw := hw.1 hc4
    refine W.widen (k := 1) (n := 6) (Nat.le_of_ble_eq_true rfl) (Nat.le_of_ble_eq_true rfl) ?_
    refine vx_ret ?_
    exact W.vret hx hb hr (fun t ht hW => ⟨⟨M, rfl, hw, by unfold pt_B; rw [ht]; exact hP⟩, hS.F ht⟩) hS.2.2 dX7_checkRunning_15
  · replace hw := hw.2 hc4
    exact px_thr F hst (by decide) kw_595 kw_74 vatRX7_47 vgdRX7_47 hZ hS hl.1 dX7_checkRunning_7 dX7_checkRunning_10 dX7_checkRunning_11 dX7_checkRunning_14 hout (Nat.le_of_ble_eq_true rfl) (Nat.le_of_ble_eq_true rfl) (Nat.le_of_ble_eq_true rfl) (Nat.le_of_ble_eq_true rfl) hlocks hw (Nat.le_of_ble_eq_true rfl) (Nat.le_of_ble_eq_true rfl)
-- ===== X7_checkState
def wpVX7_checkState (E : String → Prop) (p1 : Int32) (M : pt_M) (Q : pt_M → Prop) : Prop :=
  wpX7_isWithin p1 0 ((M 1 3) - 1) M (fun (r_11 : Int32) (M_11 : pt_M) => (¬ r_11 = 0 → Q M_11) ∧ (r_11 = 0 → E "java/lang/IndexOutOfBoundsException"))
set_option maxHeartbeats 4000000 in
set_option maxRecDepth 100000 in
theorem mtVX7_checkState (l : Launch) (hst : l.stackTraces = false) (D : va_G) (cA : Nat → ClassId) (ad : Nat → Nat) (hI : pt_I ad) (sz : Nat) (E : String → Prop) (p1 : Int32) (M : pt_M) (Q : pt_M → Prop) (hw : wpVX7_checkState E p1 M Q) : vx_Met l yX7_checkState (Cond.code yX7_checkState cX7_checkState 2 none :: lw_all) ({ frames := 6, cells := 1, slots := 6, locals := 81 } : Room) (va_Pc [.ref (ad 0), .int p1] (px_P D cA ad sz M)) (va_Qv Q (pt_B D cA ad) (pt_fr ad sz)) (px_E E ad sz) 1 6 (pt_fr ad sz) := by
  refine vx_ofW (cc := cX7_checkState) (maxL := 2) (ret := none) (by decide) rfl ?_
  intro p e s m args below meth c s₁ B hml hout hv
  obtain ⟨rfl, ⟨hsz, hP, hK⟩, hZ⟩ := hv
  have hx := B.exec
  have hb := B.bytes
  have hr := B.returns
  have hts0 := atoms_spec (ws := (Cond.code yX7_checkState cX7_checkState 2 none :: lw_all)) B.pre
  have hown : s.vm.findClass RX7 = some m.cls := findClass_of_methodNamed B.named
  have hlocks := B.notSynchronized
  subst hsz
  have F : pt_F p m c cX7_checkState 2 s _ RX7 D cA := ⟨⟨hx, hb, hml, hown, fun w h => hts0 w (List.mem_cons_of_mem _ h)⟩, hK⟩
  have hD : ∀ M, va_D (pt_fr ad s.heap.size) (pt_W cA ad M) := pt_D hI (fun k h => Or.inl ⟨k, h, rfl⟩)
  have hS : va_S (pt_fr ad s.heap.size) s.heap s.heap [] := va_S.rf
  have hl := lv_entry ([.ref (ad 0), .int p1]) (n := 2) (Nat.le_of_ble_eq_true rfl)
  rw [lg_entry_eq]
  generalize (lg_sl ([.ref (ad 0), .int p1]) ++ List.replicate (2 - (lg_sl ([.ref (ad 0), .int p1])).length) Slot.unset).toArray = ls at hl ⊢
  have hl : lv_has ls 2 [(0, .ref (ad 0)), (1, .int p1)] := hl
  unfold wpVX7_checkState at hw
  refine lv_iload_n hx hb dX7_checkState_0 rfl (lv_at hl 1 rfl) ?_
  refine lv_iconst (v := 0) hx hb dX7_checkState_1 (by decide) ?_
  refine lv_aload_n hx hb dX7_checkState_2 rfl (lv_at hl 0 rfl) ?_
  refine pt_get F hP (pt_c7 _ pt_k0) (pt_l7 pt_k0) inX7 rfl 0 (by decide) kw_370 rfl rfl dX7_checkState_3 ?_
  refine pt_get F hP (pt_c1 _ pt_k1) (pt_l1 pt_k1) inX1 rfl 3 (by decide) kw_231 rfl rfl dX7_checkState_6 ?_
  refine lv_iconst (v := 1) hx hb dX7_checkState_9 (by decide) ?_
  refine lv_isub hx hb dX7_checkState_10 ?_
  refine pt_calli (pt_runS (n := 3) (As := [.int p1, .int 0, .int ((M 1 3) - 1)]) (rest := []) F hP (mtX7_isWithin l D cA ad hI _ p1 0 ((M 1 3) - 1) M _ hw) kw_432 kw_430 kw_52 kw_431 ⟨by decide, by decide, by decide +kernel⟩ ⟨rfl, rfl, Nat.le_of_ble_eq_true rfl, Nat.le_of_ble_eq_true rfl⟩ rfl hl.1 rfl (Nat.le_of_ble_eq_true rfl) dX7_checkState_11 ⟨Nat.le_of_ble_eq_true rfl, Nat.le_of_ble_eq_true rfl⟩) hS (fun _ h => h) (fun r_11 M_11 H locs hw hP hS _ _ => ?_)
  refine lv_if_ne (tgt := 25) hx hb dX7_checkState_14 (by decide) (fun hc14 => ?_) (fun hc14 => ?_)
  · replace hw := hw.1 hc14
    refine W.widen (k := 1) (n := 6) (Nat.le_of_ble_eq_true rfl) (Nat.le_of_ble_eq_true rfl) ?_
    refine vx_ret ?_
    exact W.vret hx hb hr (fun t ht hW => ⟨⟨M_11, rfl, hw, by unfold pt_B; rw [ht]; exact hP⟩, hS.F ht⟩) hS.2.2 dX7_checkState_25
  · replace hw := hw.2 hc14
    exact px_thr F hst (by decide) kw_482 kw_75 vatRX7_202 vgdRX7_202 hZ hS hl.1 dX7_checkState_17 dX7_checkState_20 dX7_checkState_21 dX7_checkState_24 hout (Nat.le_of_ble_eq_true rfl) (Nat.le_of_ble_eq_true rfl) (Nat.le_of_ble_eq_true rfl) (Nat.le_of_ble_eq_true rfl) hlocks hw (Nat.le_of_ble_eq_true rfl) (Nat.le_of_ble_eq_true rfl)
-- ===== X7_checkTransition
def wpVX7_checkTransition (E : String → Prop) (p1 : Int32) (M : pt_M) (Q : pt_M → Prop) : Prop :=
  wpX7_isWithin p1 0 ((M 1 4) - 1) M (fun (r_11 : Int32) (M_11 : pt_M) => (¬ r_11 = 0 → Q M_11) ∧ (r_11 = 0 → E "java/lang/IndexOutOfBoundsException"))
set_option maxHeartbeats 4000000 in
set_option maxRecDepth 100000 in
theorem mtVX7_checkTransition (l : Launch) (hst : l.stackTraces = false) (D : va_G) (cA : Nat → ClassId) (ad : Nat → Nat) (hI : pt_I ad) (sz : Nat) (E : String → Prop) (p1 : Int32) (M : pt_M) (Q : pt_M → Prop) (hw : wpVX7_checkTransition E p1 M Q) : vx_Met l yX7_checkTransition (Cond.code yX7_checkTransition cX7_checkTransition 2 none :: lw_all) ({ frames := 6, cells := 1, slots := 6, locals := 81 } : Room) (va_Pc [.ref (ad 0), .int p1] (px_P D cA ad sz M)) (va_Qv Q (pt_B D cA ad) (pt_fr ad sz)) (px_E E ad sz) 1 6 (pt_fr ad sz) := by
  refine vx_ofW (cc := cX7_checkTransition) (maxL := 2) (ret := none) (by decide) rfl ?_
  intro p e s m args below meth c s₁ B hml hout hv
  obtain ⟨rfl, ⟨hsz, hP, hK⟩, hZ⟩ := hv
  have hx := B.exec
  have hb := B.bytes
  have hr := B.returns
  have hts0 := atoms_spec (ws := (Cond.code yX7_checkTransition cX7_checkTransition 2 none :: lw_all)) B.pre
  have hown : s.vm.findClass RX7 = some m.cls := findClass_of_methodNamed B.named
  have hlocks := B.notSynchronized
  subst hsz
  have F : pt_F p m c cX7_checkTransition 2 s _ RX7 D cA := ⟨⟨hx, hb, hml, hown, fun w h => hts0 w (List.mem_cons_of_mem _ h)⟩, hK⟩
  have hD : ∀ M, va_D (pt_fr ad s.heap.size) (pt_W cA ad M) := pt_D hI (fun k h => Or.inl ⟨k, h, rfl⟩)
  have hS : va_S (pt_fr ad s.heap.size) s.heap s.heap [] := va_S.rf
  have hl := lv_entry ([.ref (ad 0), .int p1]) (n := 2) (Nat.le_of_ble_eq_true rfl)
  rw [lg_entry_eq]
  generalize (lg_sl ([.ref (ad 0), .int p1]) ++ List.replicate (2 - (lg_sl ([.ref (ad 0), .int p1])).length) Slot.unset).toArray = ls at hl ⊢
  have hl : lv_has ls 2 [(0, .ref (ad 0)), (1, .int p1)] := hl
  unfold wpVX7_checkTransition at hw
  refine lv_iload_n hx hb dX7_checkTransition_0 rfl (lv_at hl 1 rfl) ?_
  refine lv_iconst (v := 0) hx hb dX7_checkTransition_1 (by decide) ?_
  refine lv_aload_n hx hb dX7_checkTransition_2 rfl (lv_at hl 0 rfl) ?_
  refine pt_get F hP (pt_c7 _ pt_k0) (pt_l7 pt_k0) inX7 rfl 0 (by decide) kw_370 rfl rfl dX7_checkTransition_3 ?_
  refine pt_get F hP (pt_c1 _ pt_k1) (pt_l1 pt_k1) inX1 rfl 4 (by decide) kw_234 rfl rfl dX7_checkTransition_6 ?_
  refine lv_iconst (v := 1) hx hb dX7_checkTransition_9 (by decide) ?_
  refine lv_isub hx hb dX7_checkTransition_10 ?_
  refine pt_calli (pt_runS (n := 3) (As := [.int p1, .int 0, .int ((M 1 4) - 1)]) (rest := []) F hP (mtX7_isWithin l D cA ad hI _ p1 0 ((M 1 4) - 1) M _ hw) kw_432 kw_430 kw_52 kw_431 ⟨by decide, by decide, by decide +kernel⟩ ⟨rfl, rfl, Nat.le_of_ble_eq_true rfl, Nat.le_of_ble_eq_true rfl⟩ rfl hl.1 rfl (Nat.le_of_ble_eq_true rfl) dX7_checkTransition_11 ⟨Nat.le_of_ble_eq_true rfl, Nat.le_of_ble_eq_true rfl⟩) hS (fun _ h => h) (fun r_11 M_11 H locs hw hP hS _ _ => ?_)
  refine lv_if_ne (tgt := 25) hx hb dX7_checkTransition_14 (by decide) (fun hc14 => ?_) (fun hc14 => ?_)
  · replace hw := hw.1 hc14
    refine W.widen (k := 1) (n := 6) (Nat.le_of_ble_eq_true rfl) (Nat.le_of_ble_eq_true rfl) ?_
    refine vx_ret ?_
    exact W.vret hx hb hr (fun t ht hW => ⟨⟨M_11, rfl, hw, by unfold pt_B; rw [ht]; exact hP⟩, hS.F ht⟩) hS.2.2 dX7_checkTransition_25
  · replace hw := hw.2 hc14
    exact px_thr F hst (by decide) kw_482 kw_75 vatRX7_202 vgdRX7_202 hZ hS hl.1 dX7_checkTransition_17 dX7_checkTransition_20 dX7_checkTransition_21 dX7_checkTransition_24 hout (Nat.le_of_ble_eq_true rfl) (Nat.le_of_ble_eq_true rfl) (Nat.le_of_ble_eq_true rfl) (Nat.le_of_ble_eq_true rfl) hlocks hw (Nat.le_of_ble_eq_true rfl) (Nat.le_of_ble_eq_true rfl)
-- ===== X7_checkEvent
def wpVX7_checkEvent (E : String → Prop) (p1 : Int32) (M : pt_M) (Q : pt_M → Prop) : Prop :=
  wpX7_isWithin p1 0 9 M (fun (r_4 : Int32) (M_4 : pt_M) => (¬ r_4 = 0 → Q M_4) ∧ (r_4 = 0 → E "java/lang/IllegalArgumentException"))
set_option maxHeartbeats 4000000 in
set_option maxRecDepth 100000 in
theorem mtVX7_checkEvent (l : Launch) (hst : l.stackTraces = false) (D : va_G) (cA : Nat → ClassId) (ad : Nat → Nat) (hI : pt_I ad) (sz : Nat) (E : String → Prop) (p1 : Int32) (M : pt_M) (Q : pt_M → Prop) (hw : wpVX7_checkEvent E p1 M Q) : vx_Met l yX7_checkEvent (Cond.code yX7_checkEvent cX7_checkEvent 1 none :: lw_all) ({ frames := 6, cells := 1, slots := 6, locals := 81 } : Room) (va_Pc [.int p1] (px_P D cA ad sz M)) (va_Qv Q (pt_B D cA ad) (pt_fr ad sz)) (px_E E ad sz) 1 6 (pt_fr ad sz) := by
  refine vx_ofW (cc := cX7_checkEvent) (maxL := 1) (ret := none) (by decide) rfl ?_
  intro p e s m args below meth c s₁ B hml hout hv
  obtain ⟨rfl, ⟨hsz, hP, hK⟩, hZ⟩ := hv
  have hx := B.exec
  have hb := B.bytes
  have hr := B.returns
  have hts0 := atoms_spec (ws := (Cond.code yX7_checkEvent cX7_checkEvent 1 none :: lw_all)) B.pre
  have hown : s.vm.findClass RX7 = some m.cls := findClass_of_methodNamed B.named
  have hlocks := B.notSynchronized
  subst hsz
  have F : pt_F p m c cX7_checkEvent 1 s _ RX7 D cA := ⟨⟨hx, hb, hml, hown, fun w h => hts0 w (List.mem_cons_of_mem _ h)⟩, hK⟩
  have hD : ∀ M, va_D (pt_fr ad s.heap.size) (pt_W cA ad M) := pt_D hI (fun k h => Or.inl ⟨k, h, rfl⟩)
  have hS : va_S (pt_fr ad s.heap.size) s.heap s.heap [] := va_S.rf
  have hl := lv_entry ([.int p1]) (n := 1) (Nat.le_of_ble_eq_true rfl)
  rw [lg_entry_eq]
  generalize (lg_sl ([.int p1]) ++ List.replicate (1 - (lg_sl ([.int p1])).length) Slot.unset).toArray = ls at hl ⊢
  have hl : lv_has ls 1 [(0, .int p1)] := hl
  unfold wpVX7_checkEvent at hw
  refine lv_iload_n hx hb dX7_checkEvent_0 rfl (lv_at hl 0 rfl) ?_
  refine lv_iconst (v := 0) hx hb dX7_checkEvent_1 (by decide) ?_
  refine lv_bipush (v := 9) hx hb dX7_checkEvent_2 (by decide) ?_
  refine pt_calli (pt_runS (n := 3) (As := [.int p1, .int 0, .int 9]) (rest := []) F hP (mtX7_isWithin l D cA ad hI _ p1 0 9 M _ hw) kw_432 kw_430 kw_52 kw_431 ⟨by decide, by decide, by decide +kernel⟩ ⟨rfl, rfl, Nat.le_of_ble_eq_true rfl, Nat.le_of_ble_eq_true rfl⟩ rfl hl.1 rfl (Nat.le_of_ble_eq_true rfl) dX7_checkEvent_4 ⟨Nat.le_of_ble_eq_true rfl, Nat.le_of_ble_eq_true rfl⟩) hS (fun _ h => h) (fun r_4 M_4 H locs hw hP hS _ _ => ?_)
  refine lv_if_ne (tgt := 18) hx hb dX7_checkEvent_7 (by decide) (fun hc7 => ?_) (fun hc7 => ?_)
  · replace hw := hw.1 hc7
    refine W.widen (k := 1) (n := 6) (Nat.le_of_ble_eq_true rfl) (Nat.le_of_ble_eq_true rfl) ?_
    refine vx_ret ?_
    exact W.vret hx hb hr (fun t ht hW => ⟨⟨M_4, rfl, hw, by unfold pt_B; rw [ht]; exact hP⟩, hS.F ht⟩) hS.2.2 dX7_checkEvent_18
  · replace hw := hw.2 hc7
    exact px_thr F hst (by decide) kw_545 kw_76 vatRX7_68 vgdRX7_68 hZ hS hl.1 dX7_checkEvent_10 dX7_checkEvent_13 dX7_checkEvent_14 dX7_checkEvent_17 hout (Nat.le_of_ble_eq_true rfl) (Nat.le_of_ble_eq_true rfl) (Nat.le_of_ble_eq_true rfl) (Nat.le_of_ble_eq_true rfl) hlocks hw (Nat.le_of_ble_eq_true rfl) (Nat.le_of_ble_eq_true rfl)
-- ===== X7_checkMost
def wpVX7_checkMost (E : String → Prop) (p1 : Int32) (M : pt_M) (Q : pt_M → Prop) : Prop :=
  wpX7_isWithin p1 1 8 M (fun (r_4 : Int32) (M_4 : pt_M) => (¬ r_4 = 0 → Q M_4) ∧ (r_4 = 0 → E "java/lang/IllegalArgumentException"))
set_option maxHeartbeats 4000000 in
set_option maxRecDepth 100000 in
theorem mtVX7_checkMost (l : Launch) (hst : l.stackTraces = false) (D : va_G) (cA : Nat → ClassId) (ad : Nat → Nat) (hI : pt_I ad) (sz : Nat) (E : String → Prop) (p1 : Int32) (M : pt_M) (Q : pt_M → Prop) (hw : wpVX7_checkMost E p1 M Q) : vx_Met l yX7_checkMost (Cond.code yX7_checkMost cX7_checkMost 1 none :: lw_all) ({ frames := 6, cells := 1, slots := 6, locals := 81 } : Room) (va_Pc [.int p1] (px_P D cA ad sz M)) (va_Qv Q (pt_B D cA ad) (pt_fr ad sz)) (px_E E ad sz) 1 6 (pt_fr ad sz) := by
  refine vx_ofW (cc := cX7_checkMost) (maxL := 1) (ret := none) (by decide) rfl ?_
  intro p e s m args below meth c s₁ B hml hout hv
  obtain ⟨rfl, ⟨hsz, hP, hK⟩, hZ⟩ := hv
  have hx := B.exec
  have hb := B.bytes
  have hr := B.returns
  have hts0 := atoms_spec (ws := (Cond.code yX7_checkMost cX7_checkMost 1 none :: lw_all)) B.pre
  have hown : s.vm.findClass RX7 = some m.cls := findClass_of_methodNamed B.named
  have hlocks := B.notSynchronized
  subst hsz
  have F : pt_F p m c cX7_checkMost 1 s _ RX7 D cA := ⟨⟨hx, hb, hml, hown, fun w h => hts0 w (List.mem_cons_of_mem _ h)⟩, hK⟩
  have hD : ∀ M, va_D (pt_fr ad s.heap.size) (pt_W cA ad M) := pt_D hI (fun k h => Or.inl ⟨k, h, rfl⟩)
  have hS : va_S (pt_fr ad s.heap.size) s.heap s.heap [] := va_S.rf
  have hl := lv_entry ([.int p1]) (n := 1) (Nat.le_of_ble_eq_true rfl)
  rw [lg_entry_eq]
  generalize (lg_sl ([.int p1]) ++ List.replicate (1 - (lg_sl ([.int p1])).length) Slot.unset).toArray = ls at hl ⊢
  have hl : lv_has ls 1 [(0, .int p1)] := hl
  unfold wpVX7_checkMost at hw
  refine lv_iload_n hx hb dX7_checkMost_0 rfl (lv_at hl 0 rfl) ?_
  refine lv_iconst (v := 1) hx hb dX7_checkMost_1 (by decide) ?_
  refine lv_bipush (v := 8) hx hb dX7_checkMost_2 (by decide) ?_
  refine pt_calli (pt_runS (n := 3) (As := [.int p1, .int 1, .int 8]) (rest := []) F hP (mtX7_isWithin l D cA ad hI _ p1 1 8 M _ hw) kw_432 kw_430 kw_52 kw_431 ⟨by decide, by decide, by decide +kernel⟩ ⟨rfl, rfl, Nat.le_of_ble_eq_true rfl, Nat.le_of_ble_eq_true rfl⟩ rfl hl.1 rfl (Nat.le_of_ble_eq_true rfl) dX7_checkMost_4 ⟨Nat.le_of_ble_eq_true rfl, Nat.le_of_ble_eq_true rfl⟩) hS (fun _ h => h) (fun r_4 M_4 H locs hw hP hS _ _ => ?_)
  refine lv_if_ne (tgt := 18) hx hb dX7_checkMost_7 (by decide) (fun hc7 => ?_) (fun hc7 => ?_)
  · replace hw := hw.1 hc7
    refine W.widen (k := 1) (n := 6) (Nat.le_of_ble_eq_true rfl) (Nat.le_of_ble_eq_true rfl) ?_
    refine vx_ret ?_
    exact W.vret hx hb hr (fun t ht hW => ⟨⟨M_4, rfl, hw, by unfold pt_B; rw [ht]; exact hP⟩, hS.F ht⟩) hS.2.2 dX7_checkMost_18
  · replace hw := hw.2 hc7
    exact px_thr F hst (by decide) kw_545 kw_76 vatRX7_68 vgdRX7_68 hZ hS hl.1 dX7_checkMost_10 dX7_checkMost_13 dX7_checkMost_14 dX7_checkMost_17 hout (Nat.le_of_ble_eq_true rfl) (Nat.le_of_ble_eq_true rfl) (Nat.le_of_ble_eq_true rfl) (Nat.le_of_ble_eq_true rfl) hlocks hw (Nat.le_of_ble_eq_true rfl) (Nat.le_of_ble_eq_true rfl)
-- ===== X7_addState
def wjVX7_addState_93 (E : String → Prop) (p1 : Int32) (p2 : Int32) (Q : Int32 → pt_M → Prop)   (M : pt_M) : Prop :=
  wpX1_putState p1 p2 M (fun (r_99 : Int32) (M_99 : pt_M) => Q r_99 M_99)
def wjVX7_addState_56 (E : String → Prop) (p1 : Int32) (p2 : Int32) (Q : Int32 → pt_M → Prop)   (M : pt_M) : Prop :=
  E "java/lang/IllegalArgumentException"
def wjVX7_addState_19 (E : String → Prop) (p1 : Int32) (p2 : Int32) (Q : Int32 → pt_M → Prop)   (M : pt_M) : Prop :=
  E "java/lang/IllegalStateException"
def wpVX7_addState (E : String → Prop) (p1 : Int32) (p2 : Int32) (M : pt_M) (Q : Int32 → pt_M → Prop) : Prop :=
  (¬ (M 0 4) = 0 → wjVX7_addState_19 E p1 p2 Q M) ∧ ((M 0 4) = 0 → ((M 1 3) < 20 → wpVX7_checkState E p1 M (fun (M_29 : pt_M) => wpX7_isWithin p2 0 4 M_29 (fun (r_35 : Int32) (M_35 : pt_M) => (r_35 = 0 → wjVX7_addState_56 E p1 p2 Q M_35) ∧ (¬ r_35 = 0 → vp_in p1 20 ∧ (wpX5_isHolder (pt_s p1) M_35 (fun (r_50 : Int32) (M_50 : pt_M) => (¬ r_50 = 0 → (¬ p2 = 2 → wjVX7_addState_93 E p1 p2 Q M_50) ∧ (p2 = 2 → vp_in p1 20 ∧ ((¬ (M_50 (pt_s p1) 2) = 1 → wjVX7_addState_93 E p1 p2 Q M_50) ∧ ((M_50 (pt_s p1) 2) = 1 → E "java/lang/IllegalArgumentException")))) ∧ (r_50 = 0 → wjVX7_addState_56 E p1 p2 Q M_50))))))) ∧ (¬ (M 1 3) < 20 → wjVX7_addState_19 E p1 p2 Q M))
set_option maxHeartbeats 4000000 in
set_option maxRecDepth 100000 in
theorem mtVX7_addState (l : Launch) (hst : l.stackTraces = false) (D : va_G) (cA : Nat → ClassId) (ad : Nat → Nat) (hI : pt_I ad) (sz : Nat) (E : String → Prop) (p1 : Int32) (p2 : Int32) (M : pt_M) (Q : Int32 → pt_M → Prop) (hw : wpVX7_addState E p1 p2 M Q) : vx_Met l yX7_addState (Cond.code yX7_addState cX7_addState 3 (some .int) :: lw_all) ({ frames := 7, cells := 2, slots := 12, locals := 102 } : Room) (va_Pc [.ref (ad 0), .int p1, .int p2] (px_P D cA ad sz M)) (va_Qi Q (pt_B D cA ad) (pt_fr ad sz)) (px_E E ad sz) 2 12 (pt_fr ad sz) := by
  refine vx_ofW (cc := cX7_addState) (maxL := 3) (ret := (some .int)) (by decide) rfl ?_
  intro p e s m args below meth c s₁ B hml hout hv
  obtain ⟨rfl, ⟨hsz, hP, hK⟩, hZ⟩ := hv
  have hx := B.exec
  have hb := B.bytes
  have hr := B.returns
  have hts0 := atoms_spec (ws := (Cond.code yX7_addState cX7_addState 3 (some .int) :: lw_all)) B.pre
  have hown : s.vm.findClass RX7 = some m.cls := findClass_of_methodNamed B.named
  have hlocks := B.notSynchronized
  subst hsz
  have F : pt_F p m c cX7_addState 3 s _ RX7 D cA := ⟨⟨hx, hb, hml, hown, fun w h => hts0 w (List.mem_cons_of_mem _ h)⟩, hK⟩
  have hD : ∀ M, va_D (pt_fr ad s.heap.size) (pt_W cA ad M) := pt_D hI (fun k h => Or.inl ⟨k, h, rfl⟩)
  have hS : va_S (pt_fr ad s.heap.size) s.heap s.heap [] := va_S.rf
  have hl := lv_entry ([.ref (ad 0), .int p1, .int p2]) (n := 3) (Nat.le_of_ble_eq_true rfl)
  rw [lg_entry_eq]
  generalize (lg_sl ([.ref (ad 0), .int p1, .int p2]) ++ List.replicate (3 - (lg_sl ([.ref (ad 0), .int p1, .int p2])).length) Slot.unset).toArray = ls at hl ⊢
  have hl : lv_has ls 3 [(0, .ref (ad 0)), (1, .int p1), (2, .int p2)] := hl
  have J93 : ∀ (M : pt_M) (H : Heap) (locs : List Loc) (ls : Array Slot), wjVX7_addState_93 E p1 p2 Q M → va_P D pt_cl (pt_W cA ad M) H → va_S (pt_fr ad s.heap.size) s.heap H locs → lv_has ls 3 [(0, .ref (ad 0)), (1, .int p1), (2, .int p2)] → W p l e (headSpec (Cond.code yX7_addState cX7_addState 3 (some .int) :: lw_all) ({ frames := 7, cells := 2, slots := 12, locals := 102 } : Room)).room s m ([.ref (ad 0), .int p1, .int p2] : List Value).toArray below meth c H locs 1 6 (vx_MQ below (va_Qi Q (pt_B D cA ad) (pt_fr ad s.heap.size)) (px_E E ad s.heap.size) ([.ref (ad 0), .int p1, .int p2] : List Value).toArray s 2 12 (pt_fr ad s.heap.size)) (F0 m 93 ls []) := by
    intro M H locs ls hw hP hS hl
    unfold wjVX7_addState_93 at hw
    refine lv_aload_n hx hb dX7_addState_93 rfl (lv_at hl 0 rfl) ?_
    refine pt_get F hP (pt_c7 _ pt_k0) (pt_l7 pt_k0) inX7 rfl 0 (by decide) kw_370 rfl rfl dX7_addState_94 ?_
    refine lv_iload_n hx hb dX7_addState_97 rfl (lv_at hl 1 rfl) ?_
    refine lv_iload_n hx hb dX7_addState_98 rfl (lv_at hl 2 rfl) ?_
    refine pt_calli (pt_runV (n := 2) (As := [.int p1, .int p2]) (rest := []) F hP (pt_c1 _ pt_k1) (pt_l1 pt_k1) rfl (mtX1_putState l D cA ad hI _ p1 p2 M _ hw) kw_617 kw_614 kw_53 kw_615 kw_616 ⟨by decide, by decide, by decide +kernel⟩ ⟨rfl, rfl, Nat.le_of_ble_eq_true rfl, Nat.le_of_ble_eq_true rfl⟩ rfl hl.1 rfl (Nat.le_of_ble_eq_true rfl) dX7_addState_99 ⟨Nat.le_of_ble_eq_true rfl, Nat.le_of_ble_eq_true rfl⟩) hS (fun _ h => h) (fun r_99 M_99 H locs hw hP hS _ _ => ?_)
    refine W.widen (k := 2) (n := 12) (Nat.le_of_ble_eq_true rfl) (Nat.le_of_ble_eq_true rfl) ?_
    refine vx_ret ?_
    exact W.iret (v := r_99) hx hb hr (fun t ht hW => ⟨⟨r_99, M_99, rfl, hw, by unfold pt_B; rw [ht]; exact hP⟩, hS.F ht⟩) hS.2.2 dX7_addState_102
  have J56 : ∀ (M : pt_M) (H : Heap) (locs : List Loc) (ls : Array Slot), wjVX7_addState_56 E p1 p2 Q M → va_P D pt_cl (pt_W cA ad M) H → va_S (pt_fr ad s.heap.size) s.heap H locs → lv_has ls 3 [] → W p l e (headSpec (Cond.code yX7_addState cX7_addState 3 (some .int) :: lw_all) ({ frames := 7, cells := 2, slots := 12, locals := 102 } : Room)).room s m ([.ref (ad 0), .int p1, .int p2] : List Value).toArray below meth c H locs 1 6 (vx_MQ below (va_Qi Q (pt_B D cA ad) (pt_fr ad s.heap.size)) (px_E E ad s.heap.size) ([.ref (ad 0), .int p1, .int p2] : List Value).toArray s 2 12 (pt_fr ad s.heap.size)) (F0 m 56 ls []) := by
    intro M H locs ls hw hP hS hl
    unfold wjVX7_addState_56 at hw
    exact px_thr F hst (by decide) kw_545 kw_76 vatRX7_68 vgdRX7_68 hZ hS hl.1 dX7_addState_56 dX7_addState_59 dX7_addState_60 dX7_addState_63 hout (Nat.le_of_ble_eq_true rfl) (Nat.le_of_ble_eq_true rfl) (Nat.le_of_ble_eq_true rfl) (Nat.le_of_ble_eq_true rfl) hlocks hw (Nat.le_of_ble_eq_true rfl) (Nat.le_of_ble_eq_true rfl)
  have J19 : ∀ (M : pt_M) (H : Heap) (locs : List Loc) (ls : Array Slot), wjVX7_addState_19 E p1 p2 Q M → va_P D pt_cl (pt_W cA ad M) H → va_S (pt_fr ad s.heap.size) s.heap H locs → lv_has ls 3 [] → W p l e (headSpec (Cond.code yX7_addState cX7_addState 3 (some .int) :: lw_all) ({ frames := 7, cells := 2, slots := 12, locals := 102 } : Room)).room s m ([.ref (ad 0), .int p1, .int p2] : List Value).toArray below meth c H locs 0 0 (vx_MQ below (va_Qi Q (pt_B D cA ad) (pt_fr ad s.heap.size)) (px_E E ad s.heap.size) ([.ref (ad 0), .int p1, .int p2] : List Value).toArray s 2 12 (pt_fr ad s.heap.size)) (F0 m 19 ls []) := by
    intro M H locs ls hw hP hS hl
    unfold wjVX7_addState_19 at hw
    exact px_thr F hst (by decide) kw_595 kw_74 vatRX7_47 vgdRX7_47 hZ hS hl.1 dX7_addState_19 dX7_addState_22 dX7_addState_23 dX7_addState_26 hout (Nat.le_of_ble_eq_true rfl) (Nat.le_of_ble_eq_true rfl) (Nat.le_of_ble_eq_true rfl) (Nat.le_of_ble_eq_true rfl) hlocks hw (Nat.le_of_ble_eq_true rfl) (Nat.le_of_ble_eq_true rfl)
  unfold wpVX7_addState at hw
  refine lv_aload_n hx hb dX7_addState_0 rfl (lv_at hl 0 rfl) ?_
  refine pt_get F hP (pt_c7 _ pt_k0) (pt_l7 pt_k0) inX7 rfl 4 (by decide) kw_374 rfl rfl dX7_addState_1 ?_
  refine lv_if_ne (tgt := 19) hx hb dX7_addState_4 (by decide) (fun hc4 => ?_) (fun hc4 => ?_)
  · replace hw := hw.1 hc4
    exact J19 M _ _ _ hw hP hS (lv_sub hl [] rfl)
  · replace hw := hw.2 hc4
    refine lv_aload_n hx hb dX7_addState_7 rfl (lv_at hl 0 rfl) ?_
    refine pt_get F hP (pt_c7 _ pt_k0) (pt_l7 pt_k0) inX7 rfl 0 (by decide) kw_370 rfl rfl dX7_addState_8 ?_
    refine pt_get F hP (pt_c1 _ pt_k1) (pt_l1 pt_k1) inX1 rfl 3 (by decide) kw_231 rfl rfl dX7_addState_11 ?_
    refine lv_bipush (v := 20) hx hb dX7_addState_14 (by decide) ?_
    refine lv_icmp_lt (tgt := 27) hx hb dX7_addState_16 (by decide) (fun hc16 => ?_) (fun hc16 => ?_)
    · replace hw := hw.1 hc16
      refine lv_aload_n hx hb dX7_addState_27 rfl (lv_at hl 0 rfl) ?_
      refine lv_iload_n hx hb dX7_addState_28 rfl (lv_at hl 1 rfl) ?_
      refine px_callv (E := E) (px_runV (n := 1) (As := [.int p1]) (rest := []) F hP hZ hS (fun q h => px_frs hS.1 q h) (pt_c7 _ pt_k0) (pt_l7 pt_k0) rfl (mtVX7_checkState l hst D cA ad hI _ E p1 M _ hw) kw_481 kw_478 kw_52 kw_480 kw_1 ⟨by decide, by decide, by decide +kernel⟩ ⟨rfl, rfl, (Nat.le_of_ble_eq_true rfl), (Nat.le_of_ble_eq_true rfl)⟩ rfl hl.1 rfl (Nat.le_of_ble_eq_true rfl) dX7_addState_29 ⟨(Nat.le_of_ble_eq_true rfl), (Nat.le_of_ble_eq_true rfl)⟩) hS (fun _ h => h) (fun X ce q9 H locs hE hS _ _ hce hcv hcl => px_out hout hlocks hE hS hce hcv hcl (Nat.le_of_ble_eq_true rfl) (Nat.le_of_ble_eq_true rfl)) (fun M_29 H locs hw hP hS _ _ => ?_)
      refine W.widen (k := 1) (n := 6) (Nat.le_of_ble_eq_true rfl) (Nat.le_of_ble_eq_true rfl) ?_
      refine lv_iload_n hx hb dX7_addState_32 rfl (lv_at hl 2 rfl) ?_
      refine lv_iconst (v := 0) hx hb dX7_addState_33 (by decide) ?_
      refine lv_iconst (v := 4) hx hb dX7_addState_34 (by decide) ?_
      refine pt_calli (pt_runS (n := 3) (As := [.int p2, .int 0, .int 4]) (rest := []) F hP (mtX7_isWithin l D cA ad hI _ p2 0 4 M_29 _ hw) kw_432 kw_430 kw_52 kw_431 ⟨by decide, by decide, by decide +kernel⟩ ⟨rfl, rfl, Nat.le_of_ble_eq_true rfl, Nat.le_of_ble_eq_true rfl⟩ rfl hl.1 rfl (Nat.le_of_ble_eq_true rfl) dX7_addState_35 ⟨Nat.le_of_ble_eq_true rfl, Nat.le_of_ble_eq_true rfl⟩) hS (fun _ h => h) (fun r_35 M_35 H locs hw hP hS _ _ => ?_)
      refine lv_if_eq (tgt := 56) hx hb dX7_addState_38 (by decide) (fun hc38 => ?_) (fun hc38 => ?_)
      · replace hw := hw.1 hc38
        exact J56 M_35 _ _ _ hw hP hS (lv_sub hl [] rfl)
      · replace hw := hw.2 hc38
        refine lv_aload_n hx hb dX7_addState_41 rfl (lv_at hl 0 rfl) ?_
        refine pt_get F hP (pt_c7 _ pt_k0) (pt_l7 pt_k0) inX7 rfl 0 (by decide) kw_370 rfl rfl dX7_addState_42 ?_
        refine pt_get F hP (pt_c1 _ pt_k1) (pt_l1 pt_k1) inX1 rfl 0 (by decide) kw_223 rfl rfl dX7_addState_45 ?_
        refine lv_iload_n hx hb dX7_addState_48 rfl (lv_at hl 1 rfl) ?_
        have hv49 := hw.1
        replace hw := hw.2
        refine pt_alds F hP hv49 dX7_addState_49 ?_
        refine pt_calli (pt_runV (n := 0) (As := []) (rest := []) F hP (pt_c5 _ (pt_ks hv49)) (pt_l5 (pt_ks hv49)) rfl (mtX5_isHolder l D cA ad hI _ (pt_s p1) (pt_ks hv49) M_35 _ hw) kw_613 kw_610 kw_54 kw_611 kw_612 ⟨by decide, by decide, by decide +kernel⟩ ⟨rfl, rfl, Nat.le_of_ble_eq_true rfl, Nat.le_of_ble_eq_true rfl⟩ rfl hl.1 rfl (Nat.le_of_ble_eq_true rfl) dX7_addState_50 ⟨Nat.le_of_ble_eq_true rfl, Nat.le_of_ble_eq_true rfl⟩) hS (fun _ h => h) (fun r_50 M_50 H locs hw hP hS _ _ => ?_)
        refine lv_if_ne (tgt := 64) hx hb dX7_addState_53 (by decide) (fun hc53 => ?_) (fun hc53 => ?_)
        · replace hw := hw.1 hc53
          refine lv_iload_n hx hb dX7_addState_64 rfl (lv_at hl 2 rfl) ?_
          refine lv_iconst (v := 2) hx hb dX7_addState_65 (by decide) ?_
          refine lv_icmp_ne (tgt := 93) hx hb dX7_addState_66 (by decide) (fun hc66 => ?_) (fun hc66 => ?_)
          · replace hw := hw.1 hc66
            exact J93 M_50 _ _ _ hw hP hS (lv_sub hl [0, 1, 2] rfl)
          · replace hw := hw.2 hc66
            refine lv_aload_n hx hb dX7_addState_69 rfl (lv_at hl 0 rfl) ?_
            refine pt_get F hP (pt_c7 _ pt_k0) (pt_l7 pt_k0) inX7 rfl 0 (by decide) kw_370 rfl rfl dX7_addState_70 ?_
            refine pt_get F hP (pt_c1 _ pt_k1) (pt_l1 pt_k1) inX1 rfl 0 (by decide) kw_223 rfl rfl dX7_addState_73 ?_
            refine lv_iload_n hx hb dX7_addState_76 rfl (lv_at hl 1 rfl) ?_
            have hv77 := hw.1
            replace hw := hw.2
            refine pt_alds F hP hv77 dX7_addState_77 ?_
            refine pt_get F hP (pt_c5 _ (pt_ks hv77)) (pt_l5 (pt_ks hv77)) inX5 rfl 2 (by decide) kw_137 rfl rfl dX7_addState_78 ?_
            refine lv_iconst (v := 1) hx hb dX7_addState_81 (by decide) ?_
            refine lv_icmp_ne (tgt := 93) hx hb dX7_addState_82 (by decide) (fun hc82 => ?_) (fun hc82 => ?_)
            · replace hw := hw.1 hc82
              exact J93 M_50 _ _ _ hw hP hS (lv_sub hl [0, 1, 2] rfl)
            · replace hw := hw.2 hc82
              exact px_thr F hst (by decide) kw_545 kw_76 vatRX7_68 vgdRX7_68 hZ hS hl.1 dX7_addState_85 dX7_addState_88 dX7_addState_89 dX7_addState_92 hout (Nat.le_of_ble_eq_true rfl) (Nat.le_of_ble_eq_true rfl) (Nat.le_of_ble_eq_true rfl) (Nat.le_of_ble_eq_true rfl) hlocks hw (Nat.le_of_ble_eq_true rfl) (Nat.le_of_ble_eq_true rfl)
        · replace hw := hw.2 hc53
          exact J56 M_50 _ _ _ hw hP hS (lv_sub hl [] rfl)
    · replace hw := hw.2 hc16
      exact J19 M _ _ _ hw hP hS (lv_sub hl [] rfl)
-- ===== X7_setFirst
def wjVX7_setFirst_42 (E : String → Prop) (p1 : Int32) (p2 : Int32) (Q : Int32 → pt_M → Prop)   (M : pt_M) : Prop :=
  E "java/lang/IllegalArgumentException"
def wpVX7_setFirst (E : String → Prop) (p1 : Int32) (p2 : Int32) (M : pt_M) (Q : Int32 → pt_M → Prop) : Prop :=
  wpVX7_checkResting E M (fun (M_1 : pt_M) => wpVX7_checkState E p1 M_1 (fun (M_6 : pt_M) => wpVX7_checkState E p2 M_6 (fun (M_11 : pt_M) => vp_in p1 20 ∧ ((¬ (M_11 (pt_s p1) 2) = 0 → wjVX7_setFirst_42 E p1 p2 Q M_11) ∧ ((M_11 (pt_s p1) 2) = 0 → wpX7_has (M_11 (pt_s p1) 5) p2 M_11 (fun (r_36 : Int32) (M_36 : pt_M) => (¬ r_36 = 0 → ∀ x4_54 : Int32, x4_54 = (M_36 (pt_s p1) 4) → wpX5_putFirst (pt_s p1) p2 M_36 (fun (M_58 : pt_M) => Q x4_54 M_58)) ∧ (r_36 = 0 → wjVX7_setFirst_42 E p1 p2 Q M_36)))))))
set_option maxHeartbeats 4000000 in
set_option maxRecDepth 100000 in
theorem mtVX7_setFirst (l : Launch) (hst : l.stackTraces = false) (D : va_G) (cA : Nat → ClassId) (ad : Nat → Nat) (hI : pt_I ad) (sz : Nat) (E : String → Prop) (p1 : Int32) (p2 : Int32) (M : pt_M) (Q : Int32 → pt_M → Prop) (hw : wpVX7_setFirst E p1 p2 M Q) : vx_Met l yX7_setFirst (Cond.code yX7_setFirst cX7_setFirst 5 (some .int) :: lw_all) ({ frames := 7, cells := 4, slots := 24, locals := 102 } : Room) (va_Pc [.ref (ad 0), .int p1, .int p2] (px_P D cA ad sz M)) (va_Qi Q (pt_B D cA ad) (pt_fr ad sz)) (px_E E ad sz) 4 24 (pt_fr ad sz) := by
  refine vx_ofW (cc := cX7_setFirst) (maxL := 5) (ret := (some .int)) (by decide) rfl ?_
  intro p e s m args below meth c s₁ B hml hout hv
  obtain ⟨rfl, ⟨hsz, hP, hK⟩, hZ⟩ := hv
  have hx := B.exec
  have hb := B.bytes
  have hr := B.returns
  have hts0 := atoms_spec (ws := (Cond.code yX7_setFirst cX7_setFirst 5 (some .int) :: lw_all)) B.pre
  have hown : s.vm.findClass RX7 = some m.cls := findClass_of_methodNamed B.named
  have hlocks := B.notSynchronized
  subst hsz
  have F : pt_F p m c cX7_setFirst 5 s _ RX7 D cA := ⟨⟨hx, hb, hml, hown, fun w h => hts0 w (List.mem_cons_of_mem _ h)⟩, hK⟩
  have hD : ∀ M, va_D (pt_fr ad s.heap.size) (pt_W cA ad M) := pt_D hI (fun k h => Or.inl ⟨k, h, rfl⟩)
  have hS : va_S (pt_fr ad s.heap.size) s.heap s.heap [] := va_S.rf
  have hl := lv_entry ([.ref (ad 0), .int p1, .int p2]) (n := 5) (Nat.le_of_ble_eq_true rfl)
  rw [lg_entry_eq]
  generalize (lg_sl ([.ref (ad 0), .int p1, .int p2]) ++ List.replicate (5 - (lg_sl ([.ref (ad 0), .int p1, .int p2])).length) Slot.unset).toArray = ls at hl ⊢
  have hl : lv_has ls 5 [(0, .ref (ad 0)), (1, .int p1), (2, .int p2)] := hl
  have J42 : ∀ (M : pt_M) (H : Heap) (locs : List Loc) (ls : Array Slot), wjVX7_setFirst_42 E p1 p2 Q M → va_P D pt_cl (pt_W cA ad M) H → va_S (pt_fr ad s.heap.size) s.heap H locs → lv_has ls 5 [] → W p l e (headSpec (Cond.code yX7_setFirst cX7_setFirst 5 (some .int) :: lw_all) ({ frames := 7, cells := 4, slots := 24, locals := 102 } : Room)).room s m ([.ref (ad 0), .int p1, .int p2] : List Value).toArray below meth c H locs 3 18 (vx_MQ below (va_Qi Q (pt_B D cA ad) (pt_fr ad s.heap.size)) (px_E E ad s.heap.size) ([.ref (ad 0), .int p1, .int p2] : List Value).toArray s 4 24 (pt_fr ad s.heap.size)) (F0 m 42 ls []) := by
    intro M H locs ls hw hP hS hl
    unfold wjVX7_setFirst_42 at hw
    exact px_thr F hst (by decide) kw_545 kw_76 vatRX7_68 vgdRX7_68 hZ hS hl.1 dX7_setFirst_42 dX7_setFirst_45 dX7_setFirst_46 dX7_setFirst_49 hout (Nat.le_of_ble_eq_true rfl) (Nat.le_of_ble_eq_true rfl) (Nat.le_of_ble_eq_true rfl) (Nat.le_of_ble_eq_true rfl) hlocks hw (Nat.le_of_ble_eq_true rfl) (Nat.le_of_ble_eq_true rfl)
  unfold wpVX7_setFirst at hw
  refine lv_aload_n hx hb dX7_setFirst_0 rfl (lv_at hl 0 rfl) ?_
  refine px_callv (E := E) (px_runV (n := 0) (As := []) (rest := []) F hP hZ hS (fun q h => px_frs hS.1 q h) (pt_c7 _ pt_k0) (pt_l7 pt_k0) rfl (mtVX7_checkResting l hst D cA ad hI _ E M _ hw) kw_639 kw_636 kw_52 kw_638 kw_4 ⟨by decide, by decide, by decide +kernel⟩ ⟨rfl, rfl, (Nat.le_of_ble_eq_true rfl), (Nat.le_of_ble_eq_true rfl)⟩ rfl hl.1 rfl (Nat.le_of_ble_eq_true rfl) dX7_setFirst_1 ⟨(Nat.le_of_ble_eq_true rfl), (Nat.le_of_ble_eq_true rfl)⟩) hS (fun _ h => h) (fun X ce q9 H locs hE hS _ _ hce hcv hcl => px_out hout hlocks hE hS hce hcv hcl (Nat.le_of_ble_eq_true rfl) (Nat.le_of_ble_eq_true rfl)) (fun M_1 H locs hw hP hS _ _ => ?_)
  refine W.widen (k := 1) (n := 6) (Nat.le_of_ble_eq_true rfl) (Nat.le_of_ble_eq_true rfl) ?_
  refine lv_aload_n hx hb dX7_setFirst_4 rfl (lv_at hl 0 rfl) ?_
  refine lv_iload_n hx hb dX7_setFirst_5 rfl (lv_at hl 1 rfl) ?_
  refine px_callv (E := E) (px_runV (n := 1) (As := [.int p1]) (rest := []) F hP hZ hS (fun q h => px_frs hS.1 q h) (pt_c7 _ pt_k0) (pt_l7 pt_k0) rfl (mtVX7_checkState l hst D cA ad hI _ E p1 M_1 _ hw) kw_481 kw_478 kw_52 kw_480 kw_1 ⟨by decide, by decide, by decide +kernel⟩ ⟨rfl, rfl, (Nat.le_of_ble_eq_true rfl), (Nat.le_of_ble_eq_true rfl)⟩ rfl hl.1 rfl (Nat.le_of_ble_eq_true rfl) dX7_setFirst_6 ⟨(Nat.le_of_ble_eq_true rfl), (Nat.le_of_ble_eq_true rfl)⟩) hS (fun _ h => h) (fun X ce q9 H locs hE hS _ _ hce hcv hcl => px_out hout hlocks hE hS hce hcv hcl (Nat.le_of_ble_eq_true rfl) (Nat.le_of_ble_eq_true rfl)) (fun M_6 H locs hw hP hS _ _ => ?_)
  refine W.widen (k := 2) (n := 12) (Nat.le_of_ble_eq_true rfl) (Nat.le_of_ble_eq_true rfl) ?_
  refine lv_aload_n hx hb dX7_setFirst_9 rfl (lv_at hl 0 rfl) ?_
  refine lv_iload_n hx hb dX7_setFirst_10 rfl (lv_at hl 2 rfl) ?_
  refine px_callv (E := E) (px_runV (n := 1) (As := [.int p2]) (rest := []) F hP hZ hS (fun q h => px_frs hS.1 q h) (pt_c7 _ pt_k0) (pt_l7 pt_k0) rfl (mtVX7_checkState l hst D cA ad hI _ E p2 M_6 _ hw) kw_481 kw_478 kw_52 kw_480 kw_1 ⟨by decide, by decide, by decide +kernel⟩ ⟨rfl, rfl, (Nat.le_of_ble_eq_true rfl), (Nat.le_of_ble_eq_true rfl)⟩ rfl hl.1 rfl (Nat.le_of_ble_eq_true rfl) dX7_setFirst_11 ⟨(Nat.le_of_ble_eq_true rfl), (Nat.le_of_ble_eq_true rfl)⟩) hS (fun _ h => h) (fun X ce q9 H locs hE hS _ _ hce hcv hcl => px_out hout hlocks hE hS hce hcv hcl (Nat.le_of_ble_eq_true rfl) (Nat.le_of_ble_eq_true rfl)) (fun M_11 H locs hw hP hS _ _ => ?_)
  refine W.widen (k := 3) (n := 18) (Nat.le_of_ble_eq_true rfl) (Nat.le_of_ble_eq_true rfl) ?_
  refine lv_aload_n hx hb dX7_setFirst_14 rfl (lv_at hl 0 rfl) ?_
  refine pt_get F hP (pt_c7 _ pt_k0) (pt_l7 pt_k0) inX7 rfl 0 (by decide) kw_370 rfl rfl dX7_setFirst_15 ?_
  refine pt_get F hP (pt_c1 _ pt_k1) (pt_l1 pt_k1) inX1 rfl 0 (by decide) kw_223 rfl rfl dX7_setFirst_18 ?_
  refine lv_iload_n hx hb dX7_setFirst_21 rfl (lv_at hl 1 rfl) ?_
  have hv22 := hw.1
  replace hw := hw.2
  refine pt_alds F hP hv22 dX7_setFirst_22 ?_
  refine lv_astore_n (lv' := [(3, .ref (ad (pt_s p1))), (0, .ref (ad 0)), (1, .int p1), (2, .int p2)]) hx hb dX7_setFirst_23 rfl hl (by decide) rfl (fun ls hl => ?_)
  refine lv_aload_n hx hb dX7_setFirst_24 rfl (lv_at hl 0 rfl) ?_
  refine pt_get F hP (pt_c5 _ (pt_ks hv22)) (pt_l5 (pt_ks hv22)) inX5 rfl 2 (by decide) kw_137 rfl rfl dX7_setFirst_25 ?_
  refine lv_if_ne (tgt := 42) hx hb dX7_setFirst_28 (by decide) (fun hc28 => ?_) (fun hc28 => ?_)
  · replace hw := hw.1 hc28
    exact J42 M_11 _ _ _ hw hP hS (lv_sub hl [] rfl)
  · replace hw := hw.2 hc28
    refine lv_aload_n hx hb dX7_setFirst_31 rfl (lv_at hl 0 rfl) ?_
    refine pt_get F hP (pt_c5 _ (pt_ks hv22)) (pt_l5 (pt_ks hv22)) inX5 rfl 5 (by decide) kw_146 rfl rfl dX7_setFirst_32 ?_
    refine lv_iload_n hx hb dX7_setFirst_35 rfl (lv_at hl 3 rfl) ?_
    refine pt_calli (pt_runS (n := 2) (As := [.int (M_11 (pt_s p1) 5), .int p2]) (rest := []) F hP (mtX7_has l D cA ad hI _ (M_11 (pt_s p1) 5) p2 M_11 _ hw) kw_449 kw_447 kw_52 kw_448 ⟨by decide, by decide, by decide +kernel⟩ ⟨rfl, rfl, Nat.le_of_ble_eq_true rfl, Nat.le_of_ble_eq_true rfl⟩ rfl hl.1 rfl (Nat.le_of_ble_eq_true rfl) dX7_setFirst_36 ⟨Nat.le_of_ble_eq_true rfl, Nat.le_of_ble_eq_true rfl⟩) hS (fun _ h => h) (fun r_36 M_36 H locs hw hP hS _ _ => ?_)
    refine lv_if_ne (tgt := 50) hx hb dX7_setFirst_39 (by decide) (fun hc39 => ?_) (fun hc39 => ?_)
    · replace hw := hw.1 hc39
      refine lv_aload_n hx hb dX7_setFirst_50 rfl (lv_at hl 0 rfl) ?_
      refine pt_get F hP (pt_c5 _ (pt_ks hv22)) (pt_l5 (pt_ks hv22)) inX5 rfl 4 (by decide) kw_144 rfl rfl dX7_setFirst_51 ?_
      refine lv_topi (fun x4_54 ex4_54 => ?_)
      replace hw := hw x4_54 ex4_54
      refine lv_istore (lv' := [(4, .int x4_54), (3, .ref (ad (pt_s p1))), (0, .ref (ad 0)), (1, .int p1), (2, .int p2)]) hx hb dX7_setFirst_54 hl (by decide) rfl (fun ls hl => ?_)
      refine lv_aload_n hx hb dX7_setFirst_56 rfl (lv_at hl 1 rfl) ?_
      refine lv_iload_n hx hb dX7_setFirst_57 rfl (lv_at hl 4 rfl) ?_
      refine pt_callv (pt_runV (n := 1) (As := [.int p2]) (rest := []) F hP (pt_c5 _ (pt_ks hv22)) (pt_l5 (pt_ks hv22)) rfl (mtX5_putFirst l D cA ad hI _ (pt_s p1) (pt_ks hv22) p2 M_36 _ hw) kw_627 kw_640 kw_54 kw_625 kw_626 ⟨by decide, by decide, by decide +kernel⟩ ⟨rfl, rfl, Nat.le_of_ble_eq_true rfl, Nat.le_of_ble_eq_true rfl⟩ rfl hl.1 rfl (Nat.le_of_ble_eq_true rfl) dX7_setFirst_58 ⟨Nat.le_of_ble_eq_true rfl, Nat.le_of_ble_eq_true rfl⟩) hS (fun _ h => h) (fun M_58 H locs hw hP hS _ _ => ?_)
      refine lv_iload hx hb dX7_setFirst_61 (lv_at hl 0 rfl) ?_
      refine W.widen (k := 4) (n := 24) (Nat.le_of_ble_eq_true rfl) (Nat.le_of_ble_eq_true rfl) ?_
      refine vx_ret ?_
      exact W.iret (v := x4_54) hx hb hr (fun t ht hW => ⟨⟨x4_54, M_58, rfl, hw, by unfold pt_B; rw [ht]; exact hP⟩, hS.F ht⟩) hS.2.2 dX7_setFirst_63
    · replace hw := hw.2 hc39
      exact J42 M_36 _ _ _ hw hP hS (lv_sub hl [] rfl)
-- ===== X7_setDoing
def wjVX7_setDoing_64 (E : String → Prop) (p1 : Int32) (p2 : Int32) (p3 : Int32) (p4 : Int32) (p5 : Int32) (Q : Int32 → pt_M → Prop)  (qs0 : Nat) (M : pt_M) : Prop :=
  wpX0_become qs0 p3 p4 p5 M (fun (r_73 : Int32) (M_73 : pt_M) => Q r_73 M_73)
def wjVX7_setDoing_39 (E : String → Prop) (p1 : Int32) (p2 : Int32) (p3 : Int32) (p4 : Int32) (p5 : Int32) (Q : Int32 → pt_M → Prop)   (M : pt_M) : Prop :=
  E "java/lang/IllegalArgumentException"
def wpVX7_setDoing (E : String → Prop) (p1 : Int32) (p2 : Int32) (p3 : Int32) (p4 : Int32) (p5 : Int32) (M : pt_M) (Q : Int32 → pt_M → Prop) : Prop :=
  wpVX7_checkResting E M (fun (M_1 : pt_M) => wpVX7_checkState E p1 M_1 (fun (M_6 : pt_M) => vp_in p1 20 ∧ (wpX5_isMark (pt_s p1) M_6 (fun (r_22 : Int32) (M_22 : pt_M) => (¬ r_22 = 0 → wjVX7_setDoing_39 E p1 p2 p3 p4 p5 Q M_22) ∧ (r_22 = 0 → wpX7_isAction p3 p4 p5 M_22 (fun (r_33 : Int32) (M_33 : pt_M) => (¬ r_33 = 0 → (p2 = 0 → wjVX7_setDoing_64 E p1 p2 p3 p4 p5 Q ((pt_s p1) + 1) M_33) ∧ (¬ p2 = 0 → wjVX7_setDoing_64 E p1 p2 p3 p4 p5 Q ((pt_s p1) + 2) M_33)) ∧ (r_33 = 0 → wjVX7_setDoing_39 E p1 p2 p3 p4 p5 Q M_33)))))))
set_option maxHeartbeats 4000000 in
set_option maxRecDepth 100000 in
theorem mtVX7_setDoing (l : Launch) (hst : l.stackTraces = false) (D : va_G) (cA : Nat → ClassId) (ad : Nat → Nat) (hI : pt_I ad) (sz : Nat) (E : String → Prop) (p1 : Int32) (p2 : Int32) (p3 : Int32) (p4 : Int32) (p5 : Int32) (M : pt_M) (Q : Int32 → pt_M → Prop) (hw : wpVX7_setDoing E p1 p2 p3 p4 p5 M Q) : vx_Met l yX7_setDoing (Cond.code yX7_setDoing cX7_setDoing 8 (some .int) :: lw_all) ({ frames := 7, cells := 3, slots := 18, locals := 102 } : Room) (va_Pc [.ref (ad 0), .int p1, .int p2, .int p3, .int p4, .int p5] (px_P D cA ad sz M)) (va_Qi Q (pt_B D cA ad) (pt_fr ad sz)) (px_E E ad sz) 3 18 (pt_fr ad sz) := by
  refine vx_ofW (cc := cX7_setDoing) (maxL := 8) (ret := (some .int)) (by decide) rfl ?_
  intro p e s m args below meth c s₁ B hml hout hv
  obtain ⟨rfl, ⟨hsz, hP, hK⟩, hZ⟩ := hv
  have hx := B.exec
  have hb := B.bytes
  have hr := B.returns
  have hts0 := atoms_spec (ws := (Cond.code yX7_setDoing cX7_setDoing 8 (some .int) :: lw_all)) B.pre
  have hown : s.vm.findClass RX7 = some m.cls := findClass_of_methodNamed B.named
  have hlocks := B.notSynchronized
  subst hsz
  have F : pt_F p m c cX7_setDoing 8 s _ RX7 D cA := ⟨⟨hx, hb, hml, hown, fun w h => hts0 w (List.mem_cons_of_mem _ h)⟩, hK⟩
  have hD : ∀ M, va_D (pt_fr ad s.heap.size) (pt_W cA ad M) := pt_D hI (fun k h => Or.inl ⟨k, h, rfl⟩)
  have hS : va_S (pt_fr ad s.heap.size) s.heap s.heap [] := va_S.rf
  have hl := lv_entry ([.ref (ad 0), .int p1, .int p2, .int p3, .int p4, .int p5]) (n := 8) (Nat.le_of_ble_eq_true rfl)
  rw [lg_entry_eq]
  generalize (lg_sl ([.ref (ad 0), .int p1, .int p2, .int p3, .int p4, .int p5]) ++ List.replicate (8 - (lg_sl ([.ref (ad 0), .int p1, .int p2, .int p3, .int p4, .int p5])).length) Slot.unset).toArray = ls at hl ⊢
  have hl : lv_has ls 8 [(0, .ref (ad 0)), (1, .int p1), (2, .int p2), (3, .int p3), (4, .int p4), (5, .int p5)] := hl
  have J64 : ∀ (qs0 : Nat) (hqs0 : pt_kd qs0 = 0) (M : pt_M) (H : Heap) (locs : List Loc) (ls : Array Slot), wjVX7_setDoing_64 E p1 p2 p3 p4 p5 Q qs0 M → va_P D pt_cl (pt_W cA ad M) H → va_S (pt_fr ad s.heap.size) s.heap H locs → lv_has ls 8 [(3, .int p3), (4, .int p4), (5, .int p5)] → W p l e (headSpec (Cond.code yX7_setDoing cX7_setDoing 8 (some .int) :: lw_all) ({ frames := 7, cells := 3, slots := 18, locals := 102 } : Room)).room s m ([.ref (ad 0), .int p1, .int p2, .int p3, .int p4, .int p5] : List Value).toArray below meth c H locs 2 12 (vx_MQ below (va_Qi Q (pt_B D cA ad) (pt_fr ad s.heap.size)) (px_E E ad s.heap.size) ([.ref (ad 0), .int p1, .int p2, .int p3, .int p4, .int p5] : List Value).toArray s 3 18 (pt_fr ad s.heap.size)) (F0 m 64 ls [.ref (ad qs0)]) := by
    intro qs0 hqs0 M H locs ls hw hP hS hl
    unfold wjVX7_setDoing_64 at hw
    refine lv_astore (lv' := [(7, .ref (ad qs0)), (3, .int p3), (4, .int p4), (5, .int p5)]) hx hb dX7_setDoing_64 hl (by decide) rfl (fun ls hl => ?_)
    refine lv_aload hx hb dX7_setDoing_66 (lv_at hl 0 rfl) ?_
    refine lv_iload_n hx hb dX7_setDoing_68 rfl (lv_at hl 1 rfl) ?_
    refine lv_iload hx hb dX7_setDoing_69 (lv_at hl 2 rfl) ?_
    refine lv_iload hx hb dX7_setDoing_71 (lv_at hl 3 rfl) ?_
    refine pt_calli (pt_runV (n := 3) (As := [.int p3, .int p4, .int p5]) (rest := []) F hP (pt_c0 _ hqs0) (pt_l0 hqs0) rfl (mtX0_become l D cA ad hI _ qs0 hqs0 p3 p4 p5 M _ hw) kw_657 kw_654 kw_55 kw_655 kw_656 ⟨by decide, by decide, by decide +kernel⟩ ⟨rfl, rfl, Nat.le_of_ble_eq_true rfl, Nat.le_of_ble_eq_true rfl⟩ rfl hl.1 rfl (Nat.le_of_ble_eq_true rfl) dX7_setDoing_73 ⟨Nat.le_of_ble_eq_true rfl, Nat.le_of_ble_eq_true rfl⟩) hS (fun _ h => h) (fun r_73 M_73 H locs hw hP hS _ _ => ?_)
    refine W.widen (k := 3) (n := 18) (Nat.le_of_ble_eq_true rfl) (Nat.le_of_ble_eq_true rfl) ?_
    refine vx_ret ?_
    exact W.iret (v := r_73) hx hb hr (fun t ht hW => ⟨⟨r_73, M_73, rfl, hw, by unfold pt_B; rw [ht]; exact hP⟩, hS.F ht⟩) hS.2.2 dX7_setDoing_76
  have J39 : ∀ (M : pt_M) (H : Heap) (locs : List Loc) (ls : Array Slot), wjVX7_setDoing_39 E p1 p2 p3 p4 p5 Q M → va_P D pt_cl (pt_W cA ad M) H → va_S (pt_fr ad s.heap.size) s.heap H locs → lv_has ls 8 [] → W p l e (headSpec (Cond.code yX7_setDoing cX7_setDoing 8 (some .int) :: lw_all) ({ frames := 7, cells := 3, slots := 18, locals := 102 } : Room)).room s m ([.ref (ad 0), .int p1, .int p2, .int p3, .int p4, .int p5] : List Value).toArray below meth c H locs 2 12 (vx_MQ below (va_Qi Q (pt_B D cA ad) (pt_fr ad s.heap.size)) (px_E E ad s.heap.size) ([.ref (ad 0), .int p1, .int p2, .int p3, .int p4, .int p5] : List Value).toArray s 3 18 (pt_fr ad s.heap.size)) (F0 m 39 ls []) := by
    intro M H locs ls hw hP hS hl
    unfold wjVX7_setDoing_39 at hw
    exact px_thr F hst (by decide) kw_545 kw_76 vatRX7_68 vgdRX7_68 hZ hS hl.1 dX7_setDoing_39 dX7_setDoing_42 dX7_setDoing_43 dX7_setDoing_46 hout (Nat.le_of_ble_eq_true rfl) (Nat.le_of_ble_eq_true rfl) (Nat.le_of_ble_eq_true rfl) (Nat.le_of_ble_eq_true rfl) hlocks hw (Nat.le_of_ble_eq_true rfl) (Nat.le_of_ble_eq_true rfl)
  unfold wpVX7_setDoing at hw
  refine lv_aload_n hx hb dX7_setDoing_0 rfl (lv_at hl 0 rfl) ?_
  refine px_callv (E := E) (px_runV (n := 0) (As := []) (rest := []) F hP hZ hS (fun q h => px_frs hS.1 q h) (pt_c7 _ pt_k0) (pt_l7 pt_k0) rfl (mtVX7_checkResting l hst D cA ad hI _ E M _ hw) kw_639 kw_636 kw_52 kw_638 kw_4 ⟨by decide, by decide, by decide +kernel⟩ ⟨rfl, rfl, (Nat.le_of_ble_eq_true rfl), (Nat.le_of_ble_eq_true rfl)⟩ rfl hl.1 rfl (Nat.le_of_ble_eq_true rfl) dX7_setDoing_1 ⟨(Nat.le_of_ble_eq_true rfl), (Nat.le_of_ble_eq_true rfl)⟩) hS (fun _ h => h) (fun X ce q9 H locs hE hS _ _ hce hcv hcl => px_out hout hlocks hE hS hce hcv hcl (Nat.le_of_ble_eq_true rfl) (Nat.le_of_ble_eq_true rfl)) (fun M_1 H locs hw hP hS _ _ => ?_)
  refine W.widen (k := 1) (n := 6) (Nat.le_of_ble_eq_true rfl) (Nat.le_of_ble_eq_true rfl) ?_
  refine lv_aload_n hx hb dX7_setDoing_4 rfl (lv_at hl 0 rfl) ?_
  refine lv_iload_n hx hb dX7_setDoing_5 rfl (lv_at hl 1 rfl) ?_
  refine px_callv (E := E) (px_runV (n := 1) (As := [.int p1]) (rest := []) F hP hZ hS (fun q h => px_frs hS.1 q h) (pt_c7 _ pt_k0) (pt_l7 pt_k0) rfl (mtVX7_checkState l hst D cA ad hI _ E p1 M_1 _ hw) kw_481 kw_478 kw_52 kw_480 kw_1 ⟨by decide, by decide, by decide +kernel⟩ ⟨rfl, rfl, (Nat.le_of_ble_eq_true rfl), (Nat.le_of_ble_eq_true rfl)⟩ rfl hl.1 rfl (Nat.le_of_ble_eq_true rfl) dX7_setDoing_6 ⟨(Nat.le_of_ble_eq_true rfl), (Nat.le_of_ble_eq_true rfl)⟩) hS (fun _ h => h) (fun X ce q9 H locs hE hS _ _ hce hcv hcl => px_out hout hlocks hE hS hce hcv hcl (Nat.le_of_ble_eq_true rfl) (Nat.le_of_ble_eq_true rfl)) (fun M_6 H locs hw hP hS _ _ => ?_)
  refine W.widen (k := 2) (n := 12) (Nat.le_of_ble_eq_true rfl) (Nat.le_of_ble_eq_true rfl) ?_
  refine lv_aload_n hx hb dX7_setDoing_9 rfl (lv_at hl 0 rfl) ?_
  refine pt_get F hP (pt_c7 _ pt_k0) (pt_l7 pt_k0) inX7 rfl 0 (by decide) kw_370 rfl rfl dX7_setDoing_10 ?_
  refine pt_get F hP (pt_c1 _ pt_k1) (pt_l1 pt_k1) inX1 rfl 0 (by decide) kw_223 rfl rfl dX7_setDoing_13 ?_
  refine lv_iload_n hx hb dX7_setDoing_16 rfl (lv_at hl 1 rfl) ?_
  have hv17 := hw.1
  replace hw := hw.2
  refine pt_alds F hP hv17 dX7_setDoing_17 ?_
  refine lv_astore (lv' := [(6, .ref (ad (pt_s p1))), (0, .ref (ad 0)), (1, .int p1), (2, .int p2), (3, .int p3), (4, .int p4), (5, .int p5)]) hx hb dX7_setDoing_18 hl (by decide) rfl (fun ls hl => ?_)
  refine lv_aload hx hb dX7_setDoing_20 (lv_at hl 0 rfl) ?_
  refine pt_calli (pt_runV (n := 0) (As := []) (rest := []) F hP (pt_c5 _ (pt_ks hv17)) (pt_l5 (pt_ks hv17)) rfl (mtX5_isMark l D cA ad hI _ (pt_s p1) (pt_ks hv17) M_6 _ hw) kw_567 kw_564 kw_54 kw_565 kw_566 ⟨by decide, by decide, by decide +kernel⟩ ⟨rfl, rfl, Nat.le_of_ble_eq_true rfl, Nat.le_of_ble_eq_true rfl⟩ rfl hl.1 rfl (Nat.le_of_ble_eq_true rfl) dX7_setDoing_22 ⟨Nat.le_of_ble_eq_true rfl, Nat.le_of_ble_eq_true rfl⟩) hS (fun _ h => h) (fun r_22 M_22 H locs hw hP hS _ _ => ?_)
  refine lv_if_ne (tgt := 39) hx hb dX7_setDoing_25 (by decide) (fun hc25 => ?_) (fun hc25 => ?_)
  · replace hw := hw.1 hc25
    exact J39 M_22 _ _ _ hw hP hS (lv_sub hl [] rfl)
  · replace hw := hw.2 hc25
    refine lv_iload_n hx hb dX7_setDoing_28 rfl (lv_at hl 4 rfl) ?_
    refine lv_iload hx hb dX7_setDoing_29 (lv_at hl 5 rfl) ?_
    refine lv_iload hx hb dX7_setDoing_31 (lv_at hl 6 rfl) ?_
    refine pt_calli (pt_runS (n := 3) (As := [.int p3, .int p4, .int p5]) (rest := []) F hP (mtX7_isAction l D cA ad hI _ p3 p4 p5 M_22 _ hw) kw_650 kw_648 kw_52 kw_649 ⟨by decide, by decide, by decide +kernel⟩ ⟨rfl, rfl, Nat.le_of_ble_eq_true rfl, Nat.le_of_ble_eq_true rfl⟩ rfl hl.1 rfl (Nat.le_of_ble_eq_true rfl) dX7_setDoing_33 ⟨Nat.le_of_ble_eq_true rfl, Nat.le_of_ble_eq_true rfl⟩) hS (fun _ h => h) (fun r_33 M_33 H locs hw hP hS _ _ => ?_)
    refine lv_if_ne (tgt := 47) hx hb dX7_setDoing_36 (by decide) (fun hc36 => ?_) (fun hc36 => ?_)
    · replace hw := hw.1 hc36
      refine lv_iload_n hx hb dX7_setDoing_47 rfl (lv_at hl 3 rfl) ?_
      refine lv_if_eq (tgt := 59) hx hb dX7_setDoing_48 (by decide) (fun hc48 => ?_) (fun hc48 => ?_)
      · replace hw := hw.1 hc48
        refine lv_aload hx hb dX7_setDoing_59 (lv_at hl 0 rfl) ?_
        refine pt_get F hP (pt_c5 _ (pt_ks hv17)) (pt_l5 (pt_ks hv17)) inX5 rfl 0 (by decide) kw_130 rfl rfl dX7_setDoing_61 ?_
        exact J64 ((pt_s p1) + 1) (pt_5e (pt_ks hv17)) M_33 _ _ _ hw hP hS (lv_sub hl [4, 5, 6] rfl)
      · replace hw := hw.2 hc48
        refine lv_aload hx hb dX7_setDoing_51 (lv_at hl 0 rfl) ?_
        refine pt_get F hP (pt_c5 _ (pt_ks hv17)) (pt_l5 (pt_ks hv17)) inX5 rfl 1 (by decide) kw_133 rfl rfl dX7_setDoing_53 ?_
        refine lv_goto (tgt := 64) hx hb dX7_setDoing_56 (by decide) ?_
        exact J64 ((pt_s p1) + 2) (pt_5l (pt_ks hv17)) M_33 _ _ _ hw hP hS (lv_sub hl [4, 5, 6] rfl)
    · replace hw := hw.2 hc36
      exact J39 M_33 _ _ _ hw hP hS (lv_sub hl [] rfl)
