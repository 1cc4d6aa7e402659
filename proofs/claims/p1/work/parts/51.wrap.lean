-- ===== addState
set_option maxHeartbeats 4000000 in
set_option maxRecDepth 100000 in
theorem mtL_addState (l : Launch) (hst : l.stackTraces = false) (D : va_G) (cA : Nat → ClassId) (ad : Nat → Nat) (hI : pt_I ad) (ao : Nat) (g0 : Nat → Int64) (sz : Nat) (p1 : Int32) (p2 : Int32) (M : pt_M) (c0 v0 : Int32) (hw : wpVX7_addState (fun X : String => (X = "java/lang/IllegalStateException" ∧ c0 = 1) ∨ (X = "java/lang/IndexOutOfBoundsException" ∧ c0 = 2) ∨ (X = "java/lang/IllegalArgumentException" ∧ c0 = 3)) p1 p2 M (fun (r : Int32) (_ : pt_M) => c0 = 0 ∧ r = v0)) : Met l yL_addState (Cond.codeWith yL_addState cL_addState 5 (some .int) [(0, 10, 13, 13), (0, 10, 17, 15), (0, 10, 21, 17)] :: lw_all) ({ frames := 8, cells := 2, slots := 12, locals := 124 } : Room) (va_Pc [.ref (ad 0), .int p1, .int p2, .ref ao] (pw_P D cA ad ao g0 sz M)) (va_Qi (fun (r : Int32) (g1 : Nat → Int64) => r = c0 ∧ (c0 = 0 → g1 0 = v0.toInt64)) (fun (g1 : Nat → Int64) (t : State) => va_P D pt_cl (pw_O cA ao g1) t.heap) (pw_fr ad ao sz)) 2 12 (pw_fr ad ao sz) := by
  refine pw_ofWH (cc := cL_addState) (maxL := 5) (ret := (some .int)) (hh := [(0, 10, 13, 13), (0, 10, 17, 15), (0, 10, 21, 17)]) (by decide) rfl ?_
  intro p e s m args below meth c s₁ B hml hv
  obtain ⟨rfl, ⟨hsz, hP, hK⟩, hZ, hO, hne, hNc⟩ := hv
  have hx := B.exec
  have hb := B.bytes
  have hr := B.returns
  have hts0 := atoms_spec (ws := (Cond.codeWith yL_addState cL_addState 5 (some .int) [(0, 10, 13, 13), (0, 10, 17, 15), (0, 10, 21, 17)] :: lw_all)) B.pre
  have hown : s.vm.findClass RL = some m.cls := findClass_of_methodNamed B.named
  have hlocks := B.notSynchronized
  have htab := vx_table (x := ({ cls := "", name := "", desc := "" } : MethodName)) B (hts0 _ List.mem_cons_self)
  subst hsz
  have F : pt_F p m c cL_addState 5 s _ RL D cA := ⟨⟨hx, hb, hml, hown, fun w h => hts0 w (List.mem_cons_of_mem _ h)⟩, hK⟩
  have hS : va_S (pw_fr ad ao s.heap.size) s.heap s.heap [] := va_S.rf
  have hl := lv_entry ([.ref (ad 0), .int p1, .int p2, .ref ao]) (n := 5) (Nat.le_of_ble_eq_true rfl)
  rw [lg_entry_eq]
  generalize (lg_sl ([.ref (ad 0), .int p1, .int p2, .ref ao]) ++ List.replicate (5 - (lg_sl ([.ref (ad 0), .int p1, .int p2, .ref ao])).length) Slot.unset).toArray = ls at hl ⊢
  have hl : lv_has ls 5 [(0, .ref (ad 0)), (1, .int p1), (2, .int p2), (3, .ref ao)] := hl
  refine lv_aload_n hx hb dL_addState_0 rfl (lv_at hl 3 rfl) ?_
  refine lv_iconst (v := 0) hx hb dL_addState_1 (by decide) ?_
  refine lv_aload_n hx hb dL_addState_2 rfl (lv_at hl 0 rfl) ?_
  refine lv_iload_n hx hb dL_addState_3 rfl (lv_at hl 1 rfl) ?_
  refine lv_iload_n hx hb dL_addState_4 rfl (lv_at hl 2 rfl) ?_
  refine px_calli (px_runV (n := 2) (As := [.int p1, .int p2]) (rest := [.int 0, .ref ao]) F hP hZ hS (fun q h => Or.inl h) (pt_c7 _ pt_k0) (pt_l7 pt_k0) rfl (mtVX7_addState l hst D cA ad hI _ (fun X : String => (X = "java/lang/IllegalStateException" ∧ c0 = 1) ∨ (X = "java/lang/IndexOutOfBoundsException" ∧ c0 = 2) ∨ (X = "java/lang/IllegalArgumentException" ∧ c0 = 3)) p1 p2 M (fun (r : Int32) (_ : pt_M) => c0 = 0 ∧ r = v0) hw) kw_594 kw_591 kw_52 kw_592 kw_593 ⟨by decide, by decide, by decide +kernel⟩ ⟨rfl, rfl, (Nat.le_of_ble_eq_true rfl), (Nat.le_of_ble_eq_true rfl)⟩ rfl hl.1 rfl (Nat.le_of_ble_eq_true rfl) dL_addState_5 ⟨(Nat.le_of_ble_eq_true rfl), (Nat.le_of_ble_eq_true rfl)⟩) hS (fun q h => Or.inl h) (fun X ce q9 H locs hE hS hz ho hce hcv hcl => ?_) (fun r M1 H locs hw hP hS hz ho => ?_)
  · have hO1 := pw_keep hO hne ho
    rcases hE with ⟨rfl, rfl⟩ | ⟨rfl, rfl⟩ | ⟨rfl, rfl⟩
    · refine pw_hand (name := "java/lang/IllegalStateException") F htab [] { startPc := 0, endPc := 10, handlerPc := 13, catchType := 13 } [{ startPc := 0, endPc := 10, handlerPc := 17, catchType := 15 }, { startPc := 0, endPc := 10, handlerPc := 21, catchType := 17 }] rfl (fun z hz => absurd hz List.not_mem_nil) (by decide) (by decide) kw_588 kw_597 hce hcv hcl ?_
      refine lv_astore (lv' := [(4, .ref q9), (0, .ref (ad 0)), (1, .int p1), (2, .int p2), (3, .ref ao)]) hx hb dL_addState_13 hl (by decide) rfl (fun ls hl => ?_)
      refine lv_iconst (v := 1) hx hb dL_addState_15 (by decide) ?_
      refine W.widen (k := 2) (n := 12) (Nat.le_of_ble_eq_true rfl) (Nat.le_of_ble_eq_true rfl) ?_
      exact W.iret (v := 1) hx hb hr (fun t ht hW => ⟨⟨1, g0, rfl, ⟨rfl, fun h => absurd h (by decide)⟩, (show va_P D pt_cl (pw_O cA ao _) t.heap from by rw [ht]; exact hO1)⟩, hS.F ht⟩) hS.2.2 dL_addState_16
    · refine pw_hand (name := "java/lang/IndexOutOfBoundsException") F htab [{ startPc := 0, endPc := 10, handlerPc := 13, catchType := 13 }] { startPc := 0, endPc := 10, handlerPc := 17, catchType := 15 } [{ startPc := 0, endPc := 10, handlerPc := 21, catchType := 17 }] rfl (List.forall_mem_cons.mpr ⟨⟨by decide, _, kw_588, hNc.1⟩, (fun z hz => absurd hz List.not_mem_nil)⟩) (by decide) (by decide) kw_589 kw_484 hce hcv hcl ?_
      refine lv_astore (lv' := [(4, .ref q9), (0, .ref (ad 0)), (1, .int p1), (2, .int p2), (3, .ref ao)]) hx hb dL_addState_17 hl (by decide) rfl (fun ls hl => ?_)
      refine lv_iconst (v := 2) hx hb dL_addState_19 (by decide) ?_
      refine W.widen (k := 2) (n := 12) (Nat.le_of_ble_eq_true rfl) (Nat.le_of_ble_eq_true rfl) ?_
      exact W.iret (v := 2) hx hb hr (fun t ht hW => ⟨⟨2, g0, rfl, ⟨rfl, fun h => absurd h (by decide)⟩, (show va_P D pt_cl (pw_O cA ao _) t.heap from by rw [ht]; exact hO1)⟩, hS.F ht⟩) hS.2.2 dL_addState_20
    · refine pw_hand (name := "java/lang/IllegalArgumentException") F htab [{ startPc := 0, endPc := 10, handlerPc := 13, catchType := 13 }, { startPc := 0, endPc := 10, handlerPc := 17, catchType := 15 }] { startPc := 0, endPc := 10, handlerPc := 21, catchType := 17 } [] rfl (List.forall_mem_cons.mpr ⟨⟨by decide, _, kw_588, hNc.2.1⟩, (List.forall_mem_cons.mpr ⟨⟨by decide, _, kw_589, hNc.2.2⟩, (fun z hz => absurd hz List.not_mem_nil)⟩)⟩) (by decide) (by decide) kw_590 kw_547 hce hcv hcl ?_
      refine lv_astore (lv' := [(4, .ref q9), (0, .ref (ad 0)), (1, .int p1), (2, .int p2), (3, .ref ao)]) hx hb dL_addState_21 hl (by decide) rfl (fun ls hl => ?_)
      refine lv_iconst (v := 3) hx hb dL_addState_23 (by decide) ?_
      refine W.widen (k := 2) (n := 12) (Nat.le_of_ble_eq_true rfl) (Nat.le_of_ble_eq_true rfl) ?_
      exact W.iret (v := 3) hx hb hr (fun t ht hW => ⟨⟨3, g0, rfl, ⟨rfl, fun h => absurd h (by decide)⟩, (show va_P D pt_cl (pw_O cA ao _) t.heap from by rw [ht]; exact hO1)⟩, hS.F ht⟩) hS.2.2 dL_addState_24
  · obtain ⟨ec, ev⟩ := hw
    have hO1 := pw_keep hO hne ho
    refine lv_i2l (v := r.toInt64) hx hb dL_addState_8 rfl ?_
    refine pw_last (x := r.toInt64) F hO1 (Or.inr rfl) hS dL_addState_9 (fun g1 H locs eg hO1 hS => ?_)
    refine lv_goto (tgt := 25) hx hb dL_addState_10 (by decide) ?_
    refine lv_iconst (v := 0) hx hb dL_addState_25 (by decide) ?_
    refine W.widen (k := 2) (n := 12) (Nat.le_of_ble_eq_true rfl) (Nat.le_of_ble_eq_true rfl) ?_
    exact W.iret (v := 0) hx hb hr (fun t ht hW => ⟨⟨0, g1, rfl, ⟨ec.symm, fun _ => by rw [eg, ev]⟩, (show va_P D pt_cl (pw_O cA ao _) t.heap from by rw [ht]; exact hO1)⟩, hS.F ht⟩) hS.2.2 dL_addState_26
-- ===== setFirst
set_option maxHeartbeats 4000000 in
set_option maxRecDepth 100000 in
theorem mtL_setFirst (l : Launch) (hst : l.stackTraces = false) (D : va_G) (cA : Nat → ClassId) (ad : Nat → Nat) (hI : pt_I ad) (ao : Nat) (g0 : Nat → Int64) (sz : Nat) (p1 : Int32) (p2 : Int32) (M : pt_M) (c0 v0 : Int32) (hw : wpVX7_setFirst (fun X : String => (X = "java/lang/IllegalStateException" ∧ c0 = 1) ∨ (X = "java/lang/IndexOutOfBoundsException" ∧ c0 = 2) ∨ (X = "java/lang/IllegalArgumentException" ∧ c0 = 3)) p1 p2 M (fun (r : Int32) (_ : pt_M) => c0 = 0 ∧ r = v0)) : Met l yL_setFirst (Cond.codeWith yL_setFirst cL_setFirst 5 (some .int) [(0, 10, 13, 13), (0, 10, 17, 15), (0, 10, 21, 17)] :: lw_all) ({ frames := 8, cells := 4, slots := 24, locals := 126 } : Room) (va_Pc [.ref (ad 0), .int p1, .int p2, .ref ao] (pw_P D cA ad ao g0 sz M)) (va_Qi (fun (r : Int32) (g1 : Nat → Int64) => r = c0 ∧ (c0 = 0 → g1 0 = v0.toInt64)) (fun (g1 : Nat → Int64) (t : State) => va_P D pt_cl (pw_O cA ao g1) t.heap) (pw_fr ad ao sz)) 4 24 (pw_fr ad ao sz) := by
  refine pw_ofWH (cc := cL_setFirst) (maxL := 5) (ret := (some .int)) (hh := [(0, 10, 13, 13), (0, 10, 17, 15), (0, 10, 21, 17)]) (by decide) rfl ?_
  intro p e s m args below meth c s₁ B hml hv
  obtain ⟨rfl, ⟨hsz, hP, hK⟩, hZ, hO, hne, hNc⟩ := hv
  have hx := B.exec
  have hb := B.bytes
  have hr := B.returns
  have hts0 := atoms_spec (ws := (Cond.codeWith yL_setFirst cL_setFirst 5 (some .int) [(0, 10, 13, 13), (0, 10, 17, 15), (0, 10, 21, 17)] :: lw_all)) B.pre
  have hown : s.vm.findClass RL = some m.cls := findClass_of_methodNamed B.named
  have hlocks := B.notSynchronized
  have htab := vx_table (x := ({ cls := "", name := "", desc := "" } : MethodName)) B (hts0 _ List.mem_cons_self)
  subst hsz
  have F : pt_F p m c cL_setFirst 5 s _ RL D cA := ⟨⟨hx, hb, hml, hown, fun w h => hts0 w (List.mem_cons_of_mem _ h)⟩, hK⟩
  have hS : va_S (pw_fr ad ao s.heap.size) s.heap s.heap [] := va_S.rf
  have hl := lv_entry ([.ref (ad 0), .int p1, .int p2, .ref ao]) (n := 5) (Nat.le_of_ble_eq_true rfl)
  rw [lg_entry_eq]
  generalize (lg_sl ([.ref (ad 0), .int p1, .int p2, .ref ao]) ++ List.replicate (5 - (lg_sl ([.ref (ad 0), .int p1, .int p2, .ref ao])).length) Slot.unset).toArray = ls at hl ⊢
  have hl : lv_has ls 5 [(0, .ref (ad 0)), (1, .int p1), (2, .int p2), (3, .ref ao)] := hl
  refine lv_aload_n hx hb dL_setFirst_0 rfl (lv_at hl 3 rfl) ?_
  refine lv_iconst (v := 0) hx hb dL_setFirst_1 (by decide) ?_
  refine lv_aload_n hx hb dL_setFirst_2 rfl (lv_at hl 0 rfl) ?_
  refine lv_iload_n hx hb dL_setFirst_3 rfl (lv_at hl 1 rfl) ?_
  refine lv_iload_n hx hb dL_setFirst_4 rfl (lv_at hl 2 rfl) ?_
  refine px_calli (px_runV (n := 2) (As := [.int p1, .int p2]) (rest := [.int 0, .ref ao]) F hP hZ hS (fun q h => Or.inl h) (pt_c7 _ pt_k0) (pt_l7 pt_k0) rfl (mtVX7_setFirst l hst D cA ad hI _ (fun X : String => (X = "java/lang/IllegalStateException" ∧ c0 = 1) ∨ (X = "java/lang/IndexOutOfBoundsException" ∧ c0 = 2) ∨ (X = "java/lang/IllegalArgumentException" ∧ c0 = 3)) p1 p2 M (fun (r : Int32) (_ : pt_M) => c0 = 0 ∧ r = v0) hw) kw_635 kw_632 kw_52 kw_633 kw_634 ⟨by decide, by decide, by decide +kernel⟩ ⟨rfl, rfl, (Nat.le_of_ble_eq_true rfl), (Nat.le_of_ble_eq_true rfl)⟩ rfl hl.1 rfl (Nat.le_of_ble_eq_true rfl) dL_setFirst_5 ⟨(Nat.le_of_ble_eq_true rfl), (Nat.le_of_ble_eq_true rfl)⟩) hS (fun q h => Or.inl h) (fun X ce q9 H locs hE hS hz ho hce hcv hcl => ?_) (fun r M1 H locs hw hP hS hz ho => ?_)
  · have hO1 := pw_keep hO hne ho
    rcases hE with ⟨rfl, rfl⟩ | ⟨rfl, rfl⟩ | ⟨rfl, rfl⟩
    · refine pw_hand (name := "java/lang/IllegalStateException") F htab [] { startPc := 0, endPc := 10, handlerPc := 13, catchType := 13 } [{ startPc := 0, endPc := 10, handlerPc := 17, catchType := 15 }, { startPc := 0, endPc := 10, handlerPc := 21, catchType := 17 }] rfl (fun z hz => absurd hz List.not_mem_nil) (by decide) (by decide) kw_588 kw_597 hce hcv hcl ?_
      refine lv_astore (lv' := [(4, .ref q9), (0, .ref (ad 0)), (1, .int p1), (2, .int p2), (3, .ref ao)]) hx hb dL_setFirst_13 hl (by decide) rfl (fun ls hl => ?_)
      refine lv_iconst (v := 1) hx hb dL_setFirst_15 (by decide) ?_
      refine W.widen (k := 4) (n := 24) (Nat.le_of_ble_eq_true rfl) (Nat.le_of_ble_eq_true rfl) ?_
      exact W.iret (v := 1) hx hb hr (fun t ht hW => ⟨⟨1, g0, rfl, ⟨rfl, fun h => absurd h (by decide)⟩, (show va_P D pt_cl (pw_O cA ao _) t.heap from by rw [ht]; exact hO1)⟩, hS.F ht⟩) hS.2.2 dL_setFirst_16
    · refine pw_hand (name := "java/lang/IndexOutOfBoundsException") F htab [{ startPc := 0, endPc := 10, handlerPc := 13, catchType := 13 }] { startPc := 0, endPc := 10, handlerPc := 17, catchType := 15 } [{ startPc := 0, endPc := 10, handlerPc := 21, catchType := 17 }] rfl (List.forall_mem_cons.mpr ⟨⟨by decide, _, kw_588, hNc.1⟩, (fun z hz => absurd hz List.not_mem_nil)⟩) (by decide) (by decide) kw_589 kw_484 hce hcv hcl ?_
      refine lv_astore (lv' := [(4, .ref q9), (0, .ref (ad 0)), (1, .int p1), (2, .int p2), (3, .ref ao)]) hx hb dL_setFirst_17 hl (by decide) rfl (fun ls hl => ?_)
      refine lv_iconst (v := 2) hx hb dL_setFirst_19 (by decide) ?_
      refine W.widen (k := 4) (n := 24) (Nat.le_of_ble_eq_true rfl) (Nat.le_of_ble_eq_true rfl) ?_
      exact W.iret (v := 2) hx hb hr (fun t ht hW => ⟨⟨2, g0, rfl, ⟨rfl, fun h => absurd h (by decide)⟩, (show va_P D pt_cl (pw_O cA ao _) t.heap from by rw [ht]; exact hO1)⟩, hS.F ht⟩) hS.2.2 dL_setFirst_20
    · refine pw_hand (name := "java/lang/IllegalArgumentException") F htab [{ startPc := 0, endPc := 10, handlerPc := 13, catchType := 13 }, { startPc := 0, endPc := 10, handlerPc := 17, catchType := 15 }] { startPc := 0, endPc := 10, handlerPc := 21, catchType := 17 } [] rfl (List.forall_mem_cons.mpr ⟨⟨by decide, _, kw_588, hNc.2.1⟩, (List.forall_mem_cons.mpr ⟨⟨by decide, _, kw_589, hNc.2.2⟩, (fun z hz => absurd hz List.not_mem_nil)⟩)⟩) (by decide) (by decide) kw_590 kw_547 hce hcv hcl ?_
      refine lv_astore (lv' := [(4, .ref q9), (0, .ref (ad 0)), (1, .int p1), (2, .int p2), (3, .ref ao)]) hx hb dL_setFirst_21 hl (by decide) rfl (fun ls hl => ?_)
      refine lv_iconst (v := 3) hx hb dL_setFirst_23 (by decide) ?_
      refine W.widen (k := 4) (n := 24) (Nat.le_of_ble_eq_true rfl) (Nat.le_of_ble_eq_true rfl) ?_
      exact W.iret (v := 3) hx hb hr (fun t ht hW => ⟨⟨3, g0, rfl, ⟨rfl, fun h => absurd h (by decide)⟩, (show va_P D pt_cl (pw_O cA ao _) t.heap from by rw [ht]; exact hO1)⟩, hS.F ht⟩) hS.2.2 dL_setFirst_24
  · obtain ⟨ec, ev⟩ := hw
    have hO1 := pw_keep hO hne ho
    refine lv_i2l (v := r.toInt64) hx hb dL_setFirst_8 rfl ?_
    refine pw_last (x := r.toInt64) F hO1 (Or.inr rfl) hS dL_setFirst_9 (fun g1 H locs eg hO1 hS => ?_)
    refine lv_goto (tgt := 25) hx hb dL_setFirst_10 (by decide) ?_
    refine lv_iconst (v := 0) hx hb dL_setFirst_25 (by decide) ?_
    refine W.widen (k := 4) (n := 24) (Nat.le_of_ble_eq_true rfl) (Nat.le_of_ble_eq_true rfl) ?_
    exact W.iret (v := 0) hx hb hr (fun t ht hW => ⟨⟨0, g1, rfl, ⟨ec.symm, fun _ => by rw [eg, ev]⟩, (show va_P D pt_cl (pw_O cA ao _) t.heap from by rw [ht]; exact hO1)⟩, hS.F ht⟩) hS.2.2 dL_setFirst_26
-- ===== setDoing
set_option maxHeartbeats 4000000 in
set_option maxRecDepth 100000 in
theorem mtL_setDoing (l : Launch) (hst : l.stackTraces = false) (D : va_G) (cA : Nat → ClassId) (ad : Nat → Nat) (hI : pt_I ad) (ao : Nat) (g0 : Nat → Int64) (sz : Nat) (p1 : Int32) (p2 : Int32) (p3 : Int32) (p4 : Int32) (p5 : Int32) (M : pt_M) (c0 v0 : Int32) (hw : wpVX7_setDoing (fun X : String => (X = "java/lang/IllegalStateException" ∧ c0 = 1) ∨ (X = "java/lang/IndexOutOfBoundsException" ∧ c0 = 2) ∨ (X = "java/lang/IllegalArgumentException" ∧ c0 = 3)) p1 p2 p3 p4 p5 M (fun (r : Int32) (_ : pt_M) => c0 = 0 ∧ r = v0)) : Met l yL_setDoing (Cond.codeWith yL_setDoing cL_setDoing 8 (some .int) [(0, 16, 19, 13), (0, 16, 23, 15), (0, 16, 27, 17)] :: lw_all) ({ frames := 8, cells := 3, slots := 18, locals := 129 } : Room) (va_Pc [.ref (ad 0), .int p1, .int p2, .int p3, .int p4, .int p5, .ref ao] (pw_P D cA ad ao g0 sz M)) (va_Qi (fun (r : Int32) (g1 : Nat → Int64) => r = c0 ∧ (c0 = 0 → g1 0 = v0.toInt64)) (fun (g1 : Nat → Int64) (t : State) => va_P D pt_cl (pw_O cA ao g1) t.heap) (pw_fr ad ao sz)) 3 18 (pw_fr ad ao sz) := by
  refine pw_ofWH (cc := cL_setDoing) (maxL := 8) (ret := (some .int)) (hh := [(0, 16, 19, 13), (0, 16, 23, 15), (0, 16, 27, 17)]) (by decide) rfl ?_
  intro p e s m args below meth c s₁ B hml hv
  obtain ⟨rfl, ⟨hsz, hP, hK⟩, hZ, hO, hne, hNc⟩ := hv
  have hx := B.exec
  have hb := B.bytes
  have hr := B.returns
  have hts0 := atoms_spec (ws := (Cond.codeWith yL_setDoing cL_setDoing 8 (some .int) [(0, 16, 19, 13), (0, 16, 23, 15), (0, 16, 27, 17)] :: lw_all)) B.pre
  have hown : s.vm.findClass RL = some m.cls := findClass_of_methodNamed B.named
  have hlocks := B.notSynchronized
  have htab := vx_table (x := ({ cls := "", name := "", desc := "" } : MethodName)) B (hts0 _ List.mem_cons_self)
  subst hsz
  have F : pt_F p m c cL_setDoing 8 s _ RL D cA := ⟨⟨hx, hb, hml, hown, fun w h => hts0 w (List.mem_cons_of_mem _ h)⟩, hK⟩
  have hS : va_S (pw_fr ad ao s.heap.size) s.heap s.heap [] := va_S.rf
  have hl := lv_entry ([.ref (ad 0), .int p1, .int p2, .int p3, .int p4, .int p5, .ref ao]) (n := 8) (Nat.le_of_ble_eq_true rfl)
  rw [lg_entry_eq]
  generalize (lg_sl ([.ref (ad 0), .int p1, .int p2, .int p3, .int p4, .int p5, .ref ao]) ++ List.replicate (8 - (lg_sl ([.ref (ad 0), .int p1, .int p2, .int p3, .int p4, .int p5, .ref ao])).length) Slot.unset).toArray = ls at hl ⊢
  have hl : lv_has ls 8 [(0, .ref (ad 0)), (1, .int p1), (2, .int p2), (3, .int p3), (4, .int p4), (5, .int p5), (6, .ref ao)] := hl
  refine lv_aload hx hb dL_setDoing_0 (lv_at hl 6 rfl) ?_
  refine lv_iconst (v := 0) hx hb dL_setDoing_2 (by decide) ?_
  refine lv_aload_n hx hb dL_setDoing_3 rfl (lv_at hl 0 rfl) ?_
  refine lv_iload_n hx hb dL_setDoing_4 rfl (lv_at hl 1 rfl) ?_
  refine lv_iload_n hx hb dL_setDoing_5 rfl (lv_at hl 2 rfl) ?_
  refine lv_iload_n hx hb dL_setDoing_6 rfl (lv_at hl 3 rfl) ?_
  refine lv_iload hx hb dL_setDoing_7 (lv_at hl 4 rfl) ?_
  refine lv_iload hx hb dL_setDoing_9 (lv_at hl 5 rfl) ?_
  refine px_calli (px_runV (n := 5) (As := [.int p1, .int p2, .int p3, .int p4, .int p5]) (rest := [.int 0, .ref ao]) F hP hZ hS (fun q h => Or.inl h) (pt_c7 _ pt_k0) (pt_l7 pt_k0) rfl (mtVX7_setDoing l hst D cA ad hI _ (fun X : String => (X = "java/lang/IllegalStateException" ∧ c0 = 1) ∨ (X = "java/lang/IndexOutOfBoundsException" ∧ c0 = 2) ∨ (X = "java/lang/IllegalArgumentException" ∧ c0 = 3)) p1 p2 p3 p4 p5 M (fun (r : Int32) (_ : pt_M) => c0 = 0 ∧ r = v0) hw) kw_647 kw_644 kw_52 kw_645 kw_646 ⟨by decide, by decide, by decide +kernel⟩ ⟨rfl, rfl, (Nat.le_of_ble_eq_true rfl), (Nat.le_of_ble_eq_true rfl)⟩ rfl hl.1 rfl (Nat.le_of_ble_eq_true rfl) dL_setDoing_11 ⟨(Nat.le_of_ble_eq_true rfl), (Nat.le_of_ble_eq_true rfl)⟩) hS (fun q h => Or.inl h) (fun X ce q9 H locs hE hS hz ho hce hcv hcl => ?_) (fun r M1 H locs hw hP hS hz ho => ?_)
  · have hO1 := pw_keep hO hne ho
    rcases hE with ⟨rfl, rfl⟩ | ⟨rfl, rfl⟩ | ⟨rfl, rfl⟩
    · refine pw_hand (name := "java/lang/IllegalStateException") F htab [] { startPc := 0, endPc := 16, handlerPc := 19, catchType := 13 } [{ startPc := 0, endPc := 16, handlerPc := 23, catchType := 15 }, { startPc := 0, endPc := 16, handlerPc := 27, catchType := 17 }] rfl (fun z hz => absurd hz List.not_mem_nil) (by decide) (by decide) kw_588 kw_597 hce hcv hcl ?_
      refine lv_astore (lv' := [(7, .ref q9), (0, .ref (ad 0)), (1, .int p1), (2, .int p2), (3, .int p3), (4, .int p4), (5, .int p5), (6, .ref ao)]) hx hb dL_setDoing_19 hl (by decide) rfl (fun ls hl => ?_)
      refine lv_iconst (v := 1) hx hb dL_setDoing_21 (by decide) ?_
      refine W.widen (k := 3) (n := 18) (Nat.le_of_ble_eq_true rfl) (Nat.le_of_ble_eq_true rfl) ?_
      exact W.iret (v := 1) hx hb hr (fun t ht hW => ⟨⟨1, g0, rfl, ⟨rfl, fun h => absurd h (by decide)⟩, (show va_P D pt_cl (pw_O cA ao _) t.heap from by rw [ht]; exact hO1)⟩, hS.F ht⟩) hS.2.2 dL_setDoing_22
    · refine pw_hand (name := "java/lang/IndexOutOfBoundsException") F htab [{ startPc := 0, endPc := 16, handlerPc := 19, catchType := 13 }] { startPc := 0, endPc := 16, handlerPc := 23, catchType := 15 } [{ startPc := 0, endPc := 16, handlerPc := 27, catchType := 17 }] rfl (List.forall_mem_cons.mpr ⟨⟨by decide, _, kw_588, hNc.1⟩, (fun z hz => absurd hz List.not_mem_nil)⟩) (by decide) (by decide) kw_589 kw_484 hce hcv hcl ?_
      refine lv_astore (lv' := [(7, .ref q9), (0, .ref (ad 0)), (1, .int p1), (2, .int p2), (3, .int p3), (4, .int p4), (5, .int p5), (6, .ref ao)]) hx hb dL_setDoing_23 hl (by decide) rfl (fun ls hl => ?_)
      refine lv_iconst (v := 2) hx hb dL_setDoing_25 (by decide) ?_
      refine W.widen (k := 3) (n := 18) (Nat.le_of_ble_eq_true rfl) (Nat.le_of_ble_eq_true rfl) ?_
      exact W.iret (v := 2) hx hb hr (fun t ht hW => ⟨⟨2, g0, rfl, ⟨rfl, fun h => absurd h (by decide)⟩, (show va_P D pt_cl (pw_O cA ao _) t.heap from by rw [ht]; exact hO1)⟩, hS.F ht⟩) hS.2.2 dL_setDoing_26
    · refine pw_hand (name := "java/lang/IllegalArgumentException") F htab [{ startPc := 0, endPc := 16, handlerPc := 19, catchType := 13 }, { startPc := 0, endPc := 16, handlerPc := 23, catchType := 15 }] { startPc := 0, endPc := 16, handlerPc := 27, catchType := 17 } [] rfl (List.forall_mem_cons.mpr ⟨⟨by decide, _, kw_588, hNc.2.1⟩, (List.forall_mem_cons.mpr ⟨⟨by decide, _, kw_589, hNc.2.2⟩, (fun z hz => absurd hz List.not_mem_nil)⟩)⟩) (by decide) (by decide) kw_590 kw_547 hce hcv hcl ?_
      refine lv_astore (lv' := [(7, .ref q9), (0, .ref (ad 0)), (1, .int p1), (2, .int p2), (3, .int p3), (4, .int p4), (5, .int p5), (6, .ref ao)]) hx hb dL_setDoing_27 hl (by decide) rfl (fun ls hl => ?_)
      refine lv_iconst (v := 3) hx hb dL_setDoing_29 (by decide) ?_
      refine W.widen (k := 3) (n := 18) (Nat.le_of_ble_eq_true rfl) (Nat.le_of_ble_eq_true rfl) ?_
      exact W.iret (v := 3) hx hb hr (fun t ht hW => ⟨⟨3, g0, rfl, ⟨rfl, fun h => absurd h (by decide)⟩, (show va_P D pt_cl (pw_O cA ao _) t.heap from by rw [ht]; exact hO1)⟩, hS.F ht⟩) hS.2.2 dL_setDoing_30
  · obtain ⟨ec, ev⟩ := hw
    have hO1 := pw_keep hO hne ho
    refine lv_i2l (v := r.toInt64) hx hb dL_setDoing_14 rfl ?_
    refine pw_last (x := r.toInt64) F hO1 (Or.inr rfl) hS dL_setDoing_15 (fun g1 H locs eg hO1 hS => ?_)
    refine lv_goto (tgt := 31) hx hb dL_setDoing_16 (by decide) ?_
    refine lv_iconst (v := 0) hx hb dL_setDoing_31 (by decide) ?_
    refine W.widen (k := 3) (n := 18) (Nat.le_of_ble_eq_true rfl) (Nat.le_of_ble_eq_true rfl) ?_
    exact W.iret (v := 0) hx hb hr (fun t ht hW => ⟨⟨0, g1, rfl, ⟨ec.symm, fun _ => by rw [eg, ev]⟩, (show va_P D pt_cl (pw_O cA ao _) t.heap from by rw [ht]; exact hO1)⟩, hS.F ht⟩) hS.2.2 dL_setDoing_32
-- ===== addTransition
set_option maxHeartbeats 4000000 in
set_option maxRecDepth 100000 in
theorem mtL_addTransition (l : Launch) (hst : l.stackTraces = false) (D : va_G) (cA : Nat → ClassId) (ad : Nat → Nat) (hI : pt_I ad) (ao : Nat) (g0 : Nat → Int64) (sz : Nat) (p1 : Int32) (p2 : Int32) (p3 : Int32) (p4 : Int32) (M : pt_M) (c0 v0 : Int32) (hw : wpVX7_addTransition (fun X : String => (X = "java/lang/IllegalStateException" ∧ c0 = 1) ∨ (X = "java/lang/IndexOutOfBoundsException" ∧ c0 = 2) ∨ (X = "java/lang/IllegalArgumentException" ∧ c0 = 3)) p1 p2 p3 p4 M (fun (r : Int32) (_ : pt_M) => c0 = 0 ∧ r = v0)) : Met l yL_addTransition (Cond.codeWith yL_addTransition cL_addTransition 7 (some .int) [(0, 14, 17, 13), (0, 14, 21, 15), (0, 14, 25, 17)] :: lw_all) ({ frames := 8, cells := 3, slots := 18, locals := 126 } : Room) (va_Pc [.ref (ad 0), .int p1, .int p2, .int p3, .int p4, .ref ao] (pw_P D cA ad ao g0 sz M)) (va_Qi (fun (r : Int32) (g1 : Nat → Int64) => r = c0 ∧ (c0 = 0 → g1 0 = v0.toInt64)) (fun (g1 : Nat → Int64) (t : State) => va_P D pt_cl (pw_O cA ao g1) t.heap) (pw_fr ad ao sz)) 3 18 (pw_fr ad ao sz) := by
  refine pw_ofWH (cc := cL_addTransition) (maxL := 7) (ret := (some .int)) (hh := [(0, 14, 17, 13), (0, 14, 21, 15), (0, 14, 25, 17)]) (by decide) rfl ?_
  intro p e s m args below meth c s₁ B hml hv
  obtain ⟨rfl, ⟨hsz, hP, hK⟩, hZ, hO, hne, hNc⟩ := hv
  have hx := B.exec
  have hb := B.bytes
  have hr := B.returns
  have hts0 := atoms_spec (ws := (Cond.codeWith yL_addTransition cL_addTransition 7 (some .int) [(0, 14, 17, 13), (0, 14, 21, 15), (0, 14, 25, 17)] :: lw_all)) B.pre
  have hown : s.vm.findClass RL = some m.cls := findClass_of_methodNamed B.named
  have hlocks := B.notSynchronized
  have htab := vx_table (x := ({ cls := "", name := "", desc := "" } : MethodName)) B (hts0 _ List.mem_cons_self)
  subst hsz
  have F : pt_F p m c cL_addTransition 7 s _ RL D cA := ⟨⟨hx, hb, hml, hown, fun w h => hts0 w (List.mem_cons_of_mem _ h)⟩, hK⟩
  have hS : va_S (pw_fr ad ao s.heap.size) s.heap s.heap [] := va_S.rf
  have hl := lv_entry ([.ref (ad 0), .int p1, .int p2, .int p3, .int p4, .ref ao]) (n := 7) (Nat.le_of_ble_eq_true rfl)
  rw [lg_entry_eq]
  generalize (lg_sl ([.ref (ad 0), .int p1, .int p2, .int p3, .int p4, .ref ao]) ++ List.replicate (7 - (lg_sl ([.ref (ad 0), .int p1, .int p2, .int p3, .int p4, .ref ao])).length) Slot.unset).toArray = ls at hl ⊢
  have hl : lv_has ls 7 [(0, .ref (ad 0)), (1, .int p1), (2, .int p2), (3, .int p3), (4, .int p4), (5, .ref ao)] := hl
  refine lv_aload hx hb dL_addTransition_0 (lv_at hl 5 rfl) ?_
  refine lv_iconst (v := 0) hx hb dL_addTransition_2 (by decide) ?_
  refine lv_aload_n hx hb dL_addTransition_3 rfl (lv_at hl 0 rfl) ?_
  refine lv_iload_n hx hb dL_addTransition_4 rfl (lv_at hl 1 rfl) ?_
  refine lv_iload_n hx hb dL_addTransition_5 rfl (lv_at hl 2 rfl) ?_
  refine lv_iload_n hx hb dL_addTransition_6 rfl (lv_at hl 3 rfl) ?_
  refine lv_iload hx hb dL_addTransition_7 (lv_at hl 4 rfl) ?_
  refine px_calli (px_runV (n := 4) (As := [.int p1, .int p2, .int p3, .int p4]) (rest := [.int 0, .ref ao]) F hP hZ hS (fun q h => Or.inl h) (pt_c7 _ pt_k0) (pt_l7 pt_k0) rfl (mtVX7_addTransition l hst D cA ad hI _ (fun X : String => (X = "java/lang/IllegalStateException" ∧ c0 = 1) ∨ (X = "java/lang/IndexOutOfBoundsException" ∧ c0 = 2) ∨ (X = "java/lang/IllegalArgumentException" ∧ c0 = 3)) p1 p2 p3 p4 M (fun (r : Int32) (_ : pt_M) => c0 = 0 ∧ r = v0) hw) kw_664 kw_661 kw_52 kw_662 kw_663 ⟨by decide, by decide, by decide +kernel⟩ ⟨rfl, rfl, (Nat.le_of_ble_eq_true rfl), (Nat.le_of_ble_eq_true rfl)⟩ rfl hl.1 rfl (Nat.le_of_ble_eq_true rfl) dL_addTransition_9 ⟨(Nat.le_of_ble_eq_true rfl), (Nat.le_of_ble_eq_true rfl)⟩) hS (fun q h => Or.inl h) (fun X ce q9 H locs hE hS hz ho hce hcv hcl => ?_) (fun r M1 H locs hw hP hS hz ho => ?_)
  · have hO1 := pw_keep hO hne ho
    rcases hE with ⟨rfl, rfl⟩ | ⟨rfl, rfl⟩ | ⟨rfl, rfl⟩
    · refine pw_hand (name := "java/lang/IllegalStateException") F htab [] { startPc := 0, endPc := 14, handlerPc := 17, catchType := 13 } [{ startPc := 0, endPc := 14, handlerPc := 21, catchType := 15 }, { startPc := 0, endPc := 14, handlerPc := 25, catchType := 17 }] rfl (fun z hz => absurd hz List.not_mem_nil) (by decide) (by decide) kw_588 kw_597 hce hcv hcl ?_
      refine lv_astore (lv' := [(6, .ref q9), (0, .ref (ad 0)), (1, .int p1), (2, .int p2), (3, .int p3), (4, .int p4), (5, .ref ao)]) hx hb dL_addTransition_17 hl (by decide) rfl (fun ls hl => ?_)
      refine lv_iconst (v := 1) hx hb dL_addTransition_19 (by decide) ?_
      refine W.widen (k := 3) (n := 18) (Nat.le_of_ble_eq_true rfl) (Nat.le_of_ble_eq_true rfl) ?_
      exact W.iret (v := 1) hx hb hr (fun t ht hW => ⟨⟨1, g0, rfl, ⟨rfl, fun h => absurd h (by decide)⟩, (show va_P D pt_cl (pw_O cA ao _) t.heap from by rw [ht]; exact hO1)⟩, hS.F ht⟩) hS.2.2 dL_addTransition_20
    · refine pw_hand (name := "java/lang/IndexOutOfBoundsException") F htab [{ startPc := 0, endPc := 14, handlerPc := 17, catchType := 13 }] { startPc := 0, endPc := 14, handlerPc := 21, catchType := 15 } [{ startPc := 0, endPc := 14, handlerPc := 25, catchType := 17 }] rfl (List.forall_mem_cons.mpr ⟨⟨by decide, _, kw_588, hNc.1⟩, (fun z hz => absurd hz List.not_mem_nil)⟩) (by decide) (by decide) kw_589 kw_484 hce hcv hcl ?_
      refine lv_astore (lv' := [(6, .ref q9), (0, .ref (ad 0)), (1, .int p1), (2, .int p2), (3, .int p3), (4, .int p4), (5, .ref ao)]) hx hb dL_addTransition_21 hl (by decide) rfl (fun ls hl => ?_)
      refine lv_iconst (v := 2) hx hb dL_addTransition_23 (by decide) ?_
      refine W.widen (k := 3) (n := 18) (Nat.le_of_ble_eq_true rfl) (Nat.le_of_ble_eq_true rfl) ?_
      exact W.iret (v := 2) hx hb hr (fun t ht hW => ⟨⟨2, g0, rfl, ⟨rfl, fun h => absurd h (by decide)⟩, (show va_P D pt_cl (pw_O cA ao _) t.heap from by rw [ht]; exact hO1)⟩, hS.F ht⟩) hS.2.2 dL_addTransition_24
    · refine pw_hand (name := "java/lang/IllegalArgumentException") F htab [{ startPc := 0, endPc := 14, handlerPc := 17, catchType := 13 }, { startPc := 0, endPc := 14, handlerPc := 21, catchType := 15 }] { startPc := 0, endPc := 14, handlerPc := 25, catchType := 17 } [] rfl (List.forall_mem_cons.mpr ⟨⟨by decide, _, kw_588, hNc.2.1⟩, (List.forall_mem_cons.mpr ⟨⟨by decide, _, kw_589, hNc.2.2⟩, (fun z hz => absurd hz List.not_mem_nil)⟩)⟩) (by decide) (by decide) kw_590 kw_547 hce hcv hcl ?_
      refine lv_astore (lv' := [(6, .ref q9), (0, .ref (ad 0)), (1, .int p1), (2, .int p2), (3, .int p3), (4, .int p4), (5, .ref ao)]) hx hb dL_addTransition_25 hl (by decide) rfl (fun ls hl => ?_)
      refine lv_iconst (v := 3) hx hb dL_addTransition_27 (by decide) ?_
      refine W.widen (k := 3) (n := 18) (Nat.le_of_ble_eq_true rfl) (Nat.le_of_ble_eq_true rfl) ?_
      exact W.iret (v := 3) hx hb hr (fun t ht hW => ⟨⟨3, g0, rfl, ⟨rfl, fun h => absurd h (by decide)⟩, (show va_P D pt_cl (pw_O cA ao _) t.heap from by rw [ht]; exact hO1)⟩, hS.F ht⟩) hS.2.2 dL_addTransition_28
  · obtain ⟨ec, ev⟩ := hw
    have hO1 := pw_keep hO hne ho
    refine lv_i2l (v := r.toInt64) hx hb dL_addTransition_12 rfl ?_
    refine pw_last (x := r.toInt64) F hO1 (Or.inr rfl) hS dL_addTransition_13 (fun g1 H locs eg hO1 hS => ?_)
    refine lv_goto (tgt := 29) hx hb dL_addTransition_14 (by decide) ?_
    refine lv_iconst (v := 0) hx hb dL_addTransition_29 (by decide) ?_
    refine W.widen (k := 3) (n := 18) (Nat.le_of_ble_eq_true rfl) (Nat.le_of_ble_eq_true rfl) ?_
    exact W.iret (v := 0) hx hb hr (fun t ht hW => ⟨⟨0, g1, rfl, ⟨ec.symm, fun _ => by rw [eg, ev]⟩, (show va_P D pt_cl (pw_O cA ao _) t.heap from by rw [ht]; exact hO1)⟩, hS.F ht⟩) hS.2.2 dL_addTransition_30
-- ===== setGuard
set_option maxHeartbeats 4000000 in
set_option maxRecDepth 100000 in
theorem mtL_setGuard (l : Launch) (hst : l.stackTraces = false) (D : va_G) (cA : Nat → ClassId) (ad : Nat → Nat) (hI : pt_I ad) (ao : Nat) (g0 : Nat → Int64) (sz : Nat) (p1 : Int32) (p2 : Int32) (p3 : Int32) (p4 : Int32) (M : pt_M) (c0 v0 : Int32) (hw : wpVX7_setGuard (fun X : String => (X = "java/lang/IllegalStateException" ∧ c0 = 1) ∨ (X = "java/lang/IndexOutOfBoundsException" ∧ c0 = 2) ∨ (X = "java/lang/IllegalArgumentException" ∧ c0 = 3)) p1 p2 p3 p4 M (fun (r : Int32) (_ : pt_M) => c0 = 0 ∧ r = v0)) : Met l yL_setGuard (Cond.codeWith yL_setGuard cL_setGuard 7 (some .int) [(0, 14, 17, 13), (0, 14, 21, 15), (0, 14, 25, 17)] :: lw_all) ({ frames := 8, cells := 3, slots := 18, locals := 128 } : Room) (va_Pc [.ref (ad 0), .int p1, .int p2, .int p3, .int p4, .ref ao] (pw_P D cA ad ao g0 sz M)) (va_Qi (fun (r : Int32) (g1 : Nat → Int64) => r = c0 ∧ (c0 = 0 → g1 0 = v0.toInt64)) (fun (g1 : Nat → Int64) (t : State) => va_P D pt_cl (pw_O cA ao g1) t.heap) (pw_fr ad ao sz)) 3 18 (pw_fr ad ao sz) := by
  refine pw_ofWH (cc := cL_setGuard) (maxL := 7) (ret := (some .int)) (hh := [(0, 14, 17, 13), (0, 14, 21, 15), (0, 14, 25, 17)]) (by decide) rfl ?_
  intro p e s m args below meth c s₁ B hml hv
  obtain ⟨rfl, ⟨hsz, hP, hK⟩, hZ, hO, hne, hNc⟩ := hv
  have hx := B.exec
  have hb := B.bytes
  have hr := B.returns
  have hts0 := atoms_spec (ws := (Cond.codeWith yL_setGuard cL_setGuard 7 (some .int) [(0, 14, 17, 13), (0, 14, 21, 15), (0, 14, 25, 17)] :: lw_all)) B.pre
  have hown : s.vm.findClass RL = some m.cls := findClass_of_methodNamed B.named
  have hlocks := B.notSynchronized
  have htab := vx_table (x := ({ cls := "", name := "", desc := "" } : MethodName)) B (hts0 _ List.mem_cons_self)
  subst hsz
  have F : pt_F p m c cL_setGuard 7 s _ RL D cA := ⟨⟨hx, hb, hml, hown, fun w h => hts0 w (List.mem_cons_of_mem _ h)⟩, hK⟩
  have hS : va_S (pw_fr ad ao s.heap.size) s.heap s.heap [] := va_S.rf
  have hl := lv_entry ([.ref (ad 0), .int p1, .int p2, .int p3, .int p4, .ref ao]) (n := 7) (Nat.le_of_ble_eq_true rfl)
  rw [lg_entry_eq]
  generalize (lg_sl ([.ref (ad 0), .int p1, .int p2, .int p3, .int p4, .ref ao]) ++ List.replicate (7 - (lg_sl ([.ref (ad 0), .int p1, .int p2, .int p3, .int p4, .ref ao])).length) Slot.unset).toArray = ls at hl ⊢
  have hl : lv_has ls 7 [(0, .ref (ad 0)), (1, .int p1), (2, .int p2), (3, .int p3), (4, .int p4), (5, .ref ao)] := hl
  refine lv_aload hx hb dL_setGuard_0 (lv_at hl 5 rfl) ?_
  refine lv_iconst (v := 0) hx hb dL_setGuard_2 (by decide) ?_
  refine lv_aload_n hx hb dL_setGuard_3 rfl (lv_at hl 0 rfl) ?_
  refine lv_iload_n hx hb dL_setGuard_4 rfl (lv_at hl 1 rfl) ?_
  refine lv_iload_n hx hb dL_setGuard_5 rfl (lv_at hl 2 rfl) ?_
  refine lv_iload_n hx hb dL_setGuard_6 rfl (lv_at hl 3 rfl) ?_
  refine lv_iload hx hb dL_setGuard_7 (lv_at hl 4 rfl) ?_
  refine px_calli (px_runV (n := 4) (As := [.int p1, .int p2, .int p3, .int p4]) (rest := [.int 0, .ref ao]) F hP hZ hS (fun q h => Or.inl h) (pt_c7 _ pt_k0) (pt_l7 pt_k0) rfl (mtVX7_setGuard l hst D cA ad hI _ (fun X : String => (X = "java/lang/IllegalStateException" ∧ c0 = 1) ∨ (X = "java/lang/IndexOutOfBoundsException" ∧ c0 = 2) ∨ (X = "java/lang/IllegalArgumentException" ∧ c0 = 3)) p1 p2 p3 p4 M (fun (r : Int32) (_ : pt_M) => c0 = 0 ∧ r = v0) hw) kw_685 kw_682 kw_52 kw_683 kw_684 ⟨by decide, by decide, by decide +kernel⟩ ⟨rfl, rfl, (Nat.le_of_ble_eq_true rfl), (Nat.le_of_ble_eq_true rfl)⟩ rfl hl.1 rfl (Nat.le_of_ble_eq_true rfl) dL_setGuard_9 ⟨(Nat.le_of_ble_eq_true rfl), (Nat.le_of_ble_eq_true rfl)⟩) hS (fun q h => Or.inl h) (fun X ce q9 H locs hE hS hz ho hce hcv hcl => ?_) (fun r M1 H locs hw hP hS hz ho => ?_)
  · have hO1 := pw_keep hO hne ho
    rcases hE with ⟨rfl, rfl⟩ | ⟨rfl, rfl⟩ | ⟨rfl, rfl⟩
    · refine pw_hand (name := "java/lang/IllegalStateException") F htab [] { startPc := 0, endPc := 14, handlerPc := 17, catchType := 13 } [{ startPc := 0, endPc := 14, handlerPc := 21, catchType := 15 }, { startPc := 0, endPc := 14, handlerPc := 25, catchType := 17 }] rfl (fun z hz => absurd hz List.not_mem_nil) (by decide) (by decide) kw_588 kw_597 hce hcv hcl ?_
      refine lv_astore (lv' := [(6, .ref q9), (0, .ref (ad 0)), (1, .int p1), (2, .int p2), (3, .int p3), (4, .int p4), (5, .ref ao)]) hx hb dL_setGuard_17 hl (by decide) rfl (fun ls hl => ?_)
      refine lv_iconst (v := 1) hx hb dL_setGuard_19 (by decide) ?_
      refine W.widen (k := 3) (n := 18) (Nat.le_of_ble_eq_true rfl) (Nat.le_of_ble_eq_true rfl) ?_
      exact W.iret (v := 1) hx hb hr (fun t ht hW => ⟨⟨1, g0, rfl, ⟨rfl, fun h => absurd h (by decide)⟩, (show va_P D pt_cl (pw_O cA ao _) t.heap from by rw [ht]; exact hO1)⟩, hS.F ht⟩) hS.2.2 dL_setGuard_20
    · refine pw_hand (name := "java/lang/IndexOutOfBoundsException") F htab [{ startPc := 0, endPc := 14, handlerPc := 17, catchType := 13 }] { startPc := 0, endPc := 14, handlerPc := 21, catchType := 15 } [{ startPc := 0, endPc := 14, handlerPc := 25, catchType := 17 }] rfl (List.forall_mem_cons.mpr ⟨⟨by decide, _, kw_588, hNc.1⟩, (fun z hz => absurd hz List.not_mem_nil)⟩) (by decide) (by decide) kw_589 kw_484 hce hcv hcl ?_
      refine lv_astore (lv' := [(6, .ref q9), (0, .ref (ad 0)), (1, .int p1), (2, .int p2), (3, .int p3), (4, .int p4), (5, .ref ao)]) hx hb dL_setGuard_21 hl (by decide) rfl (fun ls hl => ?_)
      refine lv_iconst (v := 2) hx hb dL_setGuard_23 (by decide) ?_
      refine W.widen (k := 3) (n := 18) (Nat.le_of_ble_eq_true rfl) (Nat.le_of_ble_eq_true rfl) ?_
      exact W.iret (v := 2) hx hb hr (fun t ht hW => ⟨⟨2, g0, rfl, ⟨rfl, fun h => absurd h (by decide)⟩, (show va_P D pt_cl (pw_O cA ao _) t.heap from by rw [ht]; exact hO1)⟩, hS.F ht⟩) hS.2.2 dL_setGuard_24
    · refine pw_hand (name := "java/lang/IllegalArgumentException") F htab [{ startPc := 0, endPc := 14, handlerPc := 17, catchType := 13 }, { startPc := 0, endPc := 14, handlerPc := 21, catchType := 15 }] { startPc := 0, endPc := 14, handlerPc := 25, catchType := 17 } [] rfl (List.forall_mem_cons.mpr ⟨⟨by decide, _, kw_588, hNc.2.1⟩, (List.forall_mem_cons.mpr ⟨⟨by decide, _, kw_589, hNc.2.2⟩, (fun z hz => absurd hz List.not_mem_nil)⟩)⟩) (by decide) (by decide) kw_590 kw_547 hce hcv hcl ?_
      refine lv_astore (lv' := [(6, .ref q9), (0, .ref (ad 0)), (1, .int p1), (2, .int p2), (3, .int p3), (4, .int p4), (5, .ref ao)]) hx hb dL_setGuard_25 hl (by decide) rfl (fun ls hl => ?_)
      refine lv_iconst (v := 3) hx hb dL_setGuard_27 (by decide) ?_
      refine W.widen (k := 3) (n := 18) (Nat.le_of_ble_eq_true rfl) (Nat.le_of_ble_eq_true rfl) ?_
      exact W.iret (v := 3) hx hb hr (fun t ht hW => ⟨⟨3, g0, rfl, ⟨rfl, fun h => absurd h (by decide)⟩, (show va_P D pt_cl (pw_O cA ao _) t.heap from by rw [ht]; exact hO1)⟩, hS.F ht⟩) hS.2.2 dL_setGuard_28
  · obtain ⟨ec, ev⟩ := hw
    have hO1 := pw_keep hO hne ho
    refine lv_i2l (v := r.toInt64) hx hb dL_setGuard_12 rfl ?_
    refine pw_last (x := r.toInt64) F hO1 (Or.inr rfl) hS dL_setGuard_13 (fun g1 H locs eg hO1 hS => ?_)
    refine lv_goto (tgt := 29) hx hb dL_setGuard_14 (by decide) ?_
    refine lv_iconst (v := 0) hx hb dL_setGuard_29 (by decide) ?_
    refine W.widen (k := 3) (n := 18) (Nat.le_of_ble_eq_true rfl) (Nat.le_of_ble_eq_true rfl) ?_
    exact W.iret (v := 0) hx hb hr (fun t ht hW => ⟨⟨0, g1, rfl, ⟨ec.symm, fun _ => by rw [eg, ev]⟩, (show va_P D pt_cl (pw_O cA ao _) t.heap from by rw [ht]; exact hO1)⟩, hS.F ht⟩) hS.2.2 dL_setGuard_30
-- ===== setAction
set_option maxHeartbeats 4000000 in
set_option maxRecDepth 100000 in
theorem mtL_setAction (l : Launch) (hst : l.stackTraces = false) (D : va_G) (cA : Nat → ClassId) (ad : Nat → Nat) (hI : pt_I ad) (ao : Nat) (g0 : Nat → Int64) (sz : Nat) (p1 : Int32) (p2 : Int32) (p3 : Int32) (p4 : Int32) (M : pt_M) (c0 v0 : Int32) (hw : wpVX7_setAction (fun X : String => (X = "java/lang/IllegalStateException" ∧ c0 = 1) ∨ (X = "java/lang/IndexOutOfBoundsException" ∧ c0 = 2) ∨ (X = "java/lang/IllegalArgumentException" ∧ c0 = 3)) p1 p2 p3 p4 M (fun (r : Int32) (_ : pt_M) => c0 = 0 ∧ r = v0)) : Met l yL_setAction (Cond.codeWith yL_setAction cL_setAction 7 (some .int) [(0, 14, 17, 13), (0, 14, 21, 15), (0, 14, 25, 17)] :: lw_all) ({ frames := 8, cells := 3, slots := 18, locals := 126 } : Room) (va_Pc [.ref (ad 0), .int p1, .int p2, .int p3, .int p4, .ref ao] (pw_P D cA ad ao g0 sz M)) (va_Qi (fun (r : Int32) (g1 : Nat → Int64) => r = c0 ∧ (c0 = 0 → g1 0 = v0.toInt64)) (fun (g1 : Nat → Int64) (t : State) => va_P D pt_cl (pw_O cA ao g1) t.heap) (pw_fr ad ao sz)) 3 18 (pw_fr ad ao sz) := by
  refine pw_ofWH (cc := cL_setAction) (maxL := 7) (ret := (some .int)) (hh := [(0, 14, 17, 13), (0, 14, 21, 15), (0, 14, 25, 17)]) (by decide) rfl ?_
  intro p e s m args below meth c s₁ B hml hv
  obtain ⟨rfl, ⟨hsz, hP, hK⟩, hZ, hO, hne, hNc⟩ := hv
  have hx := B.exec
  have hb := B.bytes
  have hr := B.returns
  have hts0 := atoms_spec (ws := (Cond.codeWith yL_setAction cL_setAction 7 (some .int) [(0, 14, 17, 13), (0, 14, 21, 15), (0, 14, 25, 17)] :: lw_all)) B.pre
  have hown : s.vm.findClass RL = some m.cls := findClass_of_methodNamed B.named
  have hlocks := B.notSynchronized
  have htab := vx_table (x := ({ cls := "", name := "", desc := "" } : MethodName)) B (hts0 _ List.mem_cons_self)
  subst hsz
  have F : pt_F p m c cL_setAction 7 s _ RL D cA := ⟨⟨hx, hb, hml, hown, fun w h => hts0 w (List.mem_cons_of_mem _ h)⟩, hK⟩
  have hS : va_S (pw_fr ad ao s.heap.size) s.heap s.heap [] := va_S.rf
  have hl := lv_entry ([.ref (ad 0), .int p1, .int p2, .int p3, .int p4, .ref ao]) (n := 7) (Nat.le_of_ble_eq_true rfl)
  rw [lg_entry_eq]
  generalize (lg_sl ([.ref (ad 0), .int p1, .int p2, .int p3, .int p4, .ref ao]) ++ List.replicate (7 - (lg_sl ([.ref (ad 0), .int p1, .int p2, .int p3, .int p4, .ref ao])).length) Slot.unset).toArray = ls at hl ⊢
  have hl : lv_has ls 7 [(0, .ref (ad 0)), (1, .int p1), (2, .int p2), (3, .int p3), (4, .int p4), (5, .ref ao)] := hl
  refine lv_aload hx hb dL_setAction_0 (lv_at hl 5 rfl) ?_
  refine lv_iconst (v := 0) hx hb dL_setAction_2 (by decide) ?_
  refine lv_aload_n hx hb dL_setAction_3 rfl (lv_at hl 0 rfl) ?_
  refine lv_iload_n hx hb dL_setAction_4 rfl (lv_at hl 1 rfl) ?_
  refine lv_iload_n hx hb dL_setAction_5 rfl (lv_at hl 2 rfl) ?_
  refine lv_iload_n hx hb dL_setAction_6 rfl (lv_at hl 3 rfl) ?_
  refine lv_iload hx hb dL_setAction_7 (lv_at hl 4 rfl) ?_
  refine px_calli (px_runV (n := 4) (As := [.int p1, .int p2, .int p3, .int p4]) (rest := [.int 0, .ref ao]) F hP hZ hS (fun q h => Or.inl h) (pt_c7 _ pt_k0) (pt_l7 pt_k0) rfl (mtVX7_setAction l hst D cA ad hI _ (fun X : String => (X = "java/lang/IllegalStateException" ∧ c0 = 1) ∨ (X = "java/lang/IndexOutOfBoundsException" ∧ c0 = 2) ∨ (X = "java/lang/IllegalArgumentException" ∧ c0 = 3)) p1 p2 p3 p4 M (fun (r : Int32) (_ : pt_M) => c0 = 0 ∧ r = v0) hw) kw_695 kw_692 kw_52 kw_693 kw_694 ⟨by decide, by decide, by decide +kernel⟩ ⟨rfl, rfl, (Nat.le_of_ble_eq_true rfl), (Nat.le_of_ble_eq_true rfl)⟩ rfl hl.1 rfl (Nat.le_of_ble_eq_true rfl) dL_setAction_9 ⟨(Nat.le_of_ble_eq_true rfl), (Nat.le_of_ble_eq_true rfl)⟩) hS (fun q h => Or.inl h) (fun X ce q9 H locs hE hS hz ho hce hcv hcl => ?_) (fun r M1 H locs hw hP hS hz ho => ?_)
  · have hO1 := pw_keep hO hne ho
    rcases hE with ⟨rfl, rfl⟩ | ⟨rfl, rfl⟩ | ⟨rfl, rfl⟩
    · refine pw_hand (name := "java/lang/IllegalStateException") F htab [] { startPc := 0, endPc := 14, handlerPc := 17, catchType := 13 } [{ startPc := 0, endPc := 14, handlerPc := 21, catchType := 15 }, { startPc := 0, endPc := 14, handlerPc := 25, catchType := 17 }] rfl (fun z hz => absurd hz List.not_mem_nil) (by decide) (by decide) kw_588 kw_597 hce hcv hcl ?_
      refine lv_astore (lv' := [(6, .ref q9), (0, .ref (ad 0)), (1, .int p1), (2, .int p2), (3, .int p3), (4, .int p4), (5, .ref ao)]) hx hb dL_setAction_17 hl (by decide) rfl (fun ls hl => ?_)
      refine lv_iconst (v := 1) hx hb dL_setAction_19 (by decide) ?_
      refine W.widen (k := 3) (n := 18) (Nat.le_of_ble_eq_true rfl) (Nat.le_of_ble_eq_true rfl) ?_
      exact W.iret (v := 1) hx hb hr (fun t ht hW => ⟨⟨1, g0, rfl, ⟨rfl, fun h => absurd h (by decide)⟩, (show va_P D pt_cl (pw_O cA ao _) t.heap from by rw [ht]; exact hO1)⟩, hS.F ht⟩) hS.2.2 dL_setAction_20
    · refine pw_hand (name := "java/lang/IndexOutOfBoundsException") F htab [{ startPc := 0, endPc := 14, handlerPc := 17, catchType := 13 }] { startPc := 0, endPc := 14, handlerPc := 21, catchType := 15 } [{ startPc := 0, endPc := 14, handlerPc := 25, catchType := 17 }] rfl (List.forall_mem_cons.mpr ⟨⟨by decide, _, kw_588, hNc.1⟩, (fun z hz => absurd hz List.not_mem_nil)⟩) (by decide) (by decide) kw_589 kw_484 hce hcv hcl ?_
      refine lv_astore (lv' := [(6, .ref q9), (0, .ref (ad 0)), (1, .int p1), (2, .int p2), (3, .int p3), (4, .int p4), (5, .ref ao)]) hx hb dL_setAction_21 hl (by decide) rfl (fun ls hl => ?_)
      refine lv_iconst (v := 2) hx hb dL_setAction_23 (by decide) ?_
      refine W.widen (k := 3) (n := 18) (Nat.le_of_ble_eq_true rfl) (Nat.le_of_ble_eq_true rfl) ?_
      exact W.iret (v := 2) hx hb hr (fun t ht hW => ⟨⟨2, g0, rfl, ⟨rfl, fun h => absurd h (by decide)⟩, (show va_P D pt_cl (pw_O cA ao _) t.heap from by rw [ht]; exact hO1)⟩, hS.F ht⟩) hS.2.2 dL_setAction_24
    · refine pw_hand (name := "java/lang/IllegalArgumentException") F htab [{ startPc := 0, endPc := 14, handlerPc := 17, catchType := 13 }, { startPc := 0, endPc := 14, handlerPc := 21, catchType := 15 }] { startPc := 0, endPc := 14, handlerPc := 25, catchType := 17 } [] rfl (List.forall_mem_cons.mpr ⟨⟨by decide, _, kw_588, hNc.2.1⟩, (List.forall_mem_cons.mpr ⟨⟨by decide, _, kw_589, hNc.2.2⟩, (fun z hz => absurd hz List.not_mem_nil)⟩)⟩) (by decide) (by decide) kw_590 kw_547 hce hcv hcl ?_
      refine lv_astore (lv' := [(6, .ref q9), (0, .ref (ad 0)), (1, .int p1), (2, .int p2), (3, .int p3), (4, .int p4), (5, .ref ao)]) hx hb dL_setAction_25 hl (by decide) rfl (fun ls hl => ?_)
      refine lv_iconst (v := 3) hx hb dL_setAction_27 (by decide) ?_
      refine W.widen (k := 3) (n := 18) (Nat.le_of_ble_eq_true rfl) (Nat.le_of_ble_eq_true rfl) ?_
      exact W.iret (v := 3) hx hb hr (fun t ht hW => ⟨⟨3, g0, rfl, ⟨rfl, fun h => absurd h (by decide)⟩, (show va_P D pt_cl (pw_O cA ao _) t.heap from by rw [ht]; exact hO1)⟩, hS.F ht⟩) hS.2.2 dL_setAction_28
  · obtain ⟨ec, ev⟩ := hw
    have hO1 := pw_keep hO hne ho
    refine lv_i2l (v := r.toInt64) hx hb dL_setAction_12 rfl ?_
    refine pw_last (x := r.toInt64) F hO1 (Or.inr rfl) hS dL_setAction_13 (fun g1 H locs eg hO1 hS => ?_)
    refine lv_goto (tgt := 29) hx hb dL_setAction_14 (by decide) ?_
    refine lv_iconst (v := 0) hx hb dL_setAction_29 (by decide) ?_
    refine W.widen (k := 3) (n := 18) (Nat.le_of_ble_eq_true rfl) (Nat.le_of_ble_eq_true rfl) ?_
    exact W.iret (v := 0) hx hb hr (fun t ht hW => ⟨⟨0, g1, rfl, ⟨ec.symm, fun _ => by rw [eg, ev]⟩, (show va_P D pt_cl (pw_O cA ao _) t.heap from by rw [ht]; exact hO1)⟩, hS.F ht⟩) hS.2.2 dL_setAction_30
-- ===== start
set_option maxHeartbeats 4000000 in
set_option maxRecDepth 100000 in
theorem mtL_start (l : Launch) (hst : l.stackTraces = false) (D : va_G) (cA : Nat → ClassId) (ad : Nat → Nat) (hI : pt_I ad) (ao : Nat) (g0 : Nat → Int64) (sz : Nat) (M : pt_M) (c0 v0 : Int32) (hw : wpVX7_start (fun X : String => (X = "java/lang/IllegalStateException" ∧ c0 = 1)) M (fun (r : Int32) (_ : pt_M) => c0 = 0 ∧ r = v0)) : Met l yL_start (Cond.codeWith yL_start cL_start 3 (some .int) [(0, 8, 11, 13)] :: lw_all) ({ frames := 8, cells := 1, slots := 6, locals := 161 } : Room) (va_Pc [.ref (ad 0), .ref ao] (pw_P D cA ad ao g0 sz M)) (va_Qi (fun (r : Int32) (g1 : Nat → Int64) => r = c0 ∧ (c0 = 0 → g1 0 = v0.toInt64)) (fun (g1 : Nat → Int64) (t : State) => va_P D pt_cl (pw_O cA ao g1) t.heap) (pw_fr ad ao sz)) 1 6 (pw_fr ad ao sz) := by
  refine pw_ofWH (cc := cL_start) (maxL := 3) (ret := (some .int)) (hh := [(0, 8, 11, 13)]) (by decide) rfl ?_
  intro p e s m args below meth c s₁ B hml hv
  obtain ⟨rfl, ⟨hsz, hP, hK⟩, hZ, hO, hne, hNc⟩ := hv
  have hx := B.exec
  have hb := B.bytes
  have hr := B.returns
  have hts0 := atoms_spec (ws := (Cond.codeWith yL_start cL_start 3 (some .int) [(0, 8, 11, 13)] :: lw_all)) B.pre
  have hown : s.vm.findClass RL = some m.cls := findClass_of_methodNamed B.named
  have hlocks := B.notSynchronized
  have htab := vx_table (x := ({ cls := "", name := "", desc := "" } : MethodName)) B (hts0 _ List.mem_cons_self)
  subst hsz
  have F : pt_F p m c cL_start 3 s _ RL D cA := ⟨⟨hx, hb, hml, hown, fun w h => hts0 w (List.mem_cons_of_mem _ h)⟩, hK⟩
  have hS : va_S (pw_fr ad ao s.heap.size) s.heap s.heap [] := va_S.rf
  have hl := lv_entry ([.ref (ad 0), .ref ao]) (n := 3) (Nat.le_of_ble_eq_true rfl)
  rw [lg_entry_eq]
  generalize (lg_sl ([.ref (ad 0), .ref ao]) ++ List.replicate (3 - (lg_sl ([.ref (ad 0), .ref ao])).length) Slot.unset).toArray = ls at hl ⊢
  have hl : lv_has ls 3 [(0, .ref (ad 0)), (1, .ref ao)] := hl
  refine lv_aload_n hx hb dL_start_0 rfl (lv_at hl 1 rfl) ?_
  refine lv_iconst (v := 0) hx hb dL_start_1 (by decide) ?_
  refine lv_aload_n hx hb dL_start_2 rfl (lv_at hl 0 rfl) ?_
  refine px_calli (px_runV (n := 0) (As := []) (rest := [.int 0, .ref ao]) F hP hZ hS (fun q h => Or.inl h) (pt_c7 _ pt_k0) (pt_l7 pt_k0) rfl (mtVX7_start l hst D cA ad hI _ (fun X : String => (X = "java/lang/IllegalStateException" ∧ c0 = 1)) M (fun (r : Int32) (_ : pt_M) => c0 = 0 ∧ r = v0) hw) kw_702 kw_699 kw_52 kw_700 kw_701 ⟨by decide, by decide, by decide +kernel⟩ ⟨rfl, rfl, (Nat.le_of_ble_eq_true rfl), (Nat.le_of_ble_eq_true rfl)⟩ rfl hl.1 rfl (Nat.le_of_ble_eq_true rfl) dL_start_3 ⟨(Nat.le_of_ble_eq_true rfl), (Nat.le_of_ble_eq_true rfl)⟩) hS (fun q h => Or.inl h) (fun X ce q9 H locs hE hS hz ho hce hcv hcl => ?_) (fun r M1 H locs hw hP hS hz ho => ?_)
  · have hO1 := pw_keep hO hne ho
    obtain ⟨rfl, rfl⟩ := hE
    refine pw_hand (name := "java/lang/IllegalStateException") F htab [] { startPc := 0, endPc := 8, handlerPc := 11, catchType := 13 } [] rfl (fun z hz => absurd hz List.not_mem_nil) (by decide) (by decide) kw_588 kw_597 hce hcv hcl ?_
    refine lv_astore_n (lv' := [(2, .ref q9), (0, .ref (ad 0)), (1, .ref ao)]) hx hb dL_start_11 rfl hl (by decide) rfl (fun ls hl => ?_)
    refine lv_iconst (v := 1) hx hb dL_start_12 (by decide) ?_
    refine W.widen (k := 1) (n := 6) (Nat.le_of_ble_eq_true rfl) (Nat.le_of_ble_eq_true rfl) ?_
    exact W.iret (v := 1) hx hb hr (fun t ht hW => ⟨⟨1, g0, rfl, ⟨rfl, fun h => absurd h (by decide)⟩, (show va_P D pt_cl (pw_O cA ao _) t.heap from by rw [ht]; exact hO1)⟩, hS.F ht⟩) hS.2.2 dL_start_13
  · obtain ⟨ec, ev⟩ := hw
    have hO1 := pw_keep hO hne ho
    refine lv_i2l (v := r.toInt64) hx hb dL_start_6 rfl ?_
    refine pw_last (x := r.toInt64) F hO1 (Or.inr rfl) hS dL_start_7 (fun g1 H locs eg hO1 hS => ?_)
    refine lv_goto (tgt := 14) hx hb dL_start_8 (by decide) ?_
    refine lv_iconst (v := 0) hx hb dL_start_14 (by decide) ?_
    refine W.widen (k := 1) (n := 6) (Nat.le_of_ble_eq_true rfl) (Nat.le_of_ble_eq_true rfl) ?_
    exact W.iret (v := 0) hx hb hr (fun t ht hW => ⟨⟨0, g1, rfl, ⟨ec.symm, fun _ => by rw [eg, ev]⟩, (show va_P D pt_cl (pw_O cA ao _) t.heap from by rw [ht]; exact hO1)⟩, hS.F ht⟩) hS.2.2 dL_start_15
-- ===== stop
set_option maxHeartbeats 4000000 in
set_option maxRecDepth 100000 in
theorem mtL_stop (l : Launch) (hst : l.stackTraces = false) (D : va_G) (cA : Nat → ClassId) (ad : Nat → Nat) (hI : pt_I ad) (ao : Nat) (g0 : Nat → Int64) (sz : Nat) (M : pt_M) (c0 v0 : Int32) (hw : wpVX7_stop (fun X : String => (X = "java/lang/IllegalStateException" ∧ c0 = 1)) M (fun (r : Int32) (_ : pt_M) => c0 = 0 ∧ r = v0)) : Met l yL_stop (Cond.codeWith yL_stop cL_stop 3 (some .int) [(0, 8, 11, 13)] :: lw_all) ({ frames := 8, cells := 1, slots := 6, locals := 122 } : Room) (va_Pc [.ref (ad 0), .ref ao] (pw_P D cA ad ao g0 sz M)) (va_Qi (fun (r : Int32) (g1 : Nat → Int64) => r = c0 ∧ (c0 = 0 → g1 0 = v0.toInt64)) (fun (g1 : Nat → Int64) (t : State) => va_P D pt_cl (pw_O cA ao g1) t.heap) (pw_fr ad ao sz)) 1 6 (pw_fr ad ao sz) := by
  refine pw_ofWH (cc := cL_stop) (maxL := 3) (ret := (some .int)) (hh := [(0, 8, 11, 13)]) (by decide) rfl ?_
  intro p e s m args below meth c s₁ B hml hv
  obtain ⟨rfl, ⟨hsz, hP, hK⟩, hZ, hO, hne, hNc⟩ := hv
  have hx := B.exec
  have hb := B.bytes
  have hr := B.returns
  have hts0 := atoms_spec (ws := (Cond.codeWith yL_stop cL_stop 3 (some .int) [(0, 8, 11, 13)] :: lw_all)) B.pre
  have hown : s.vm.findClass RL = some m.cls := findClass_of_methodNamed B.named
  have hlocks := B.notSynchronized
  have htab := vx_table (x := ({ cls := "", name := "", desc := "" } : MethodName)) B (hts0 _ List.mem_cons_self)
  subst hsz
  have F : pt_F p m c cL_stop 3 s _ RL D cA := ⟨⟨hx, hb, hml, hown, fun w h => hts0 w (List.mem_cons_of_mem _ h)⟩, hK⟩
  have hS : va_S (pw_fr ad ao s.heap.size) s.heap s.heap [] := va_S.rf
  have hl := lv_entry ([.ref (ad 0), .ref ao]) (n := 3) (Nat.le_of_ble_eq_true rfl)
  rw [lg_entry_eq]
  generalize (lg_sl ([.ref (ad 0), .ref ao]) ++ List.replicate (3 - (lg_sl ([.ref (ad 0), .ref ao])).length) Slot.unset).toArray = ls at hl ⊢
  have hl : lv_has ls 3 [(0, .ref (ad 0)), (1, .ref ao)] := hl
  refine lv_aload_n hx hb dL_stop_0 rfl (lv_at hl 1 rfl) ?_
  refine lv_iconst (v := 0) hx hb dL_stop_1 (by decide) ?_
  refine lv_aload_n hx hb dL_stop_2 rfl (lv_at hl 0 rfl) ?_
  refine px_calli (px_runV (n := 0) (As := []) (rest := [.int 0, .ref ao]) F hP hZ hS (fun q h => Or.inl h) (pt_c7 _ pt_k0) (pt_l7 pt_k0) rfl (mtVX7_stop l hst D cA ad hI _ (fun X : String => (X = "java/lang/IllegalStateException" ∧ c0 = 1)) M (fun (r : Int32) (_ : pt_M) => c0 = 0 ∧ r = v0) hw) kw_827 kw_824 kw_52 kw_825 kw_826 ⟨by decide, by decide, by decide +kernel⟩ ⟨rfl, rfl, (Nat.le_of_ble_eq_true rfl), (Nat.le_of_ble_eq_true rfl)⟩ rfl hl.1 rfl (Nat.le_of_ble_eq_true rfl) dL_stop_3 ⟨(Nat.le_of_ble_eq_true rfl), (Nat.le_of_ble_eq_true rfl)⟩) hS (fun q h => Or.inl h) (fun X ce q9 H locs hE hS hz ho hce hcv hcl => ?_) (fun r M1 H locs hw hP hS hz ho => ?_)
  · have hO1 := pw_keep hO hne ho
    obtain ⟨rfl, rfl⟩ := hE
    refine pw_hand (name := "java/lang/IllegalStateException") F htab [] { startPc := 0, endPc := 8, handlerPc := 11, catchType := 13 } [] rfl (fun z hz => absurd hz List.not_mem_nil) (by decide) (by decide) kw_588 kw_597 hce hcv hcl ?_
    refine lv_astore_n (lv' := [(2, .ref q9), (0, .ref (ad 0)), (1, .ref ao)]) hx hb dL_stop_11 rfl hl (by decide) rfl (fun ls hl => ?_)
    refine lv_iconst (v := 1) hx hb dL_stop_12 (by decide) ?_
    refine W.widen (k := 1) (n := 6) (Nat.le_of_ble_eq_true rfl) (Nat.le_of_ble_eq_true rfl) ?_
    exact W.iret (v := 1) hx hb hr (fun t ht hW => ⟨⟨1, g0, rfl, ⟨rfl, fun h => absurd h (by decide)⟩, (show va_P D pt_cl (pw_O cA ao _) t.heap from by rw [ht]; exact hO1)⟩, hS.F ht⟩) hS.2.2 dL_stop_13
  · obtain ⟨ec, ev⟩ := hw
    have hO1 := pw_keep hO hne ho
    refine lv_i2l (v := r.toInt64) hx hb dL_stop_6 rfl ?_
    refine pw_last (x := r.toInt64) F hO1 (Or.inr rfl) hS dL_stop_7 (fun g1 H locs eg hO1 hS => ?_)
    refine lv_goto (tgt := 14) hx hb dL_stop_8 (by decide) ?_
    refine lv_iconst (v := 0) hx hb dL_stop_14 (by decide) ?_
    refine W.widen (k := 1) (n := 6) (Nat.le_of_ble_eq_true rfl) (Nat.le_of_ble_eq_true rfl) ?_
    exact W.iret (v := 0) hx hb hr (fun t ht hW => ⟨⟨0, g1, rfl, ⟨ec.symm, fun _ => by rw [eg, ev]⟩, (show va_P D pt_cl (pw_O cA ao _) t.heap from by rw [ht]; exact hO1)⟩, hS.F ht⟩) hS.2.2 dL_stop_15
-- ===== send
set_option maxHeartbeats 4000000 in
set_option maxRecDepth 100000 in
theorem mtL_send (l : Launch) (hst : l.stackTraces = false) (D : va_G) (cA : Nat → ClassId) (ad : Nat → Nat) (hI : pt_I ad) (ao : Nat) (g0 : Nat → Int64) (sz : Nat) (p1 : Int32) (M : pt_M) (c0 v0 : Int32) (hw : wpVX7_send (fun X : String => (X = "java/lang/IllegalStateException" ∧ c0 = 1) ∨ (X = "java/lang/IllegalArgumentException" ∧ c0 = 2)) p1 M (fun (r : Int32) (_ : pt_M) => c0 = 0 ∧ r = v0)) : Met l yL_send (Cond.codeWith yL_send cL_send 4 (some .int) [(0, 9, 12, 13), (0, 9, 15, 17)] :: lw_all) ({ frames := 8, cells := 2, slots := 12, locals := 162 } : Room) (va_Pc [.ref (ad 0), .int p1, .ref ao] (pw_P D cA ad ao g0 sz M)) (va_Qi (fun (r : Int32) (g1 : Nat → Int64) => r = c0 ∧ (c0 = 0 → g1 0 = v0.toInt64)) (fun (g1 : Nat → Int64) (t : State) => va_P D pt_cl (pw_O cA ao g1) t.heap) (pw_fr ad ao sz)) 2 12 (pw_fr ad ao sz) := by
  refine pw_ofWH (cc := cL_send) (maxL := 4) (ret := (some .int)) (hh := [(0, 9, 12, 13), (0, 9, 15, 17)]) (by decide) rfl ?_
  intro p e s m args below meth c s₁ B hml hv
  obtain ⟨rfl, ⟨hsz, hP, hK⟩, hZ, hO, hne, hNc⟩ := hv
  have hx := B.exec
  have hb := B.bytes
  have hr := B.returns
  have hts0 := atoms_spec (ws := (Cond.codeWith yL_send cL_send 4 (some .int) [(0, 9, 12, 13), (0, 9, 15, 17)] :: lw_all)) B.pre
  have hown : s.vm.findClass RL = some m.cls := findClass_of_methodNamed B.named
  have hlocks := B.notSynchronized
  have htab := vx_table (x := ({ cls := "", name := "", desc := "" } : MethodName)) B (hts0 _ List.mem_cons_self)
  subst hsz
  have F : pt_F p m c cL_send 4 s _ RL D cA := ⟨⟨hx, hb, hml, hown, fun w h => hts0 w (List.mem_cons_of_mem _ h)⟩, hK⟩
  have hS : va_S (pw_fr ad ao s.heap.size) s.heap s.heap [] := va_S.rf
  have hl := lv_entry ([.ref (ad 0), .int p1, .ref ao]) (n := 4) (Nat.le_of_ble_eq_true rfl)
  rw [lg_entry_eq]
  generalize (lg_sl ([.ref (ad 0), .int p1, .ref ao]) ++ List.replicate (4 - (lg_sl ([.ref (ad 0), .int p1, .ref ao])).length) Slot.unset).toArray = ls at hl ⊢
  have hl : lv_has ls 4 [(0, .ref (ad 0)), (1, .int p1), (2, .ref ao)] := hl
  refine lv_aload_n hx hb dL_send_0 rfl (lv_at hl 2 rfl) ?_
  refine lv_iconst (v := 0) hx hb dL_send_1 (by decide) ?_
  refine lv_aload_n hx hb dL_send_2 rfl (lv_at hl 0 rfl) ?_
  refine lv_iload_n hx hb dL_send_3 rfl (lv_at hl 1 rfl) ?_
  refine px_calli (px_runV (n := 1) (As := [.int p1]) (rest := [.int 0, .ref ao]) F hP hZ hS (fun q h => Or.inl h) (pt_c7 _ pt_k0) (pt_l7 pt_k0) rfl (mtVX7_send l hst D cA ad hI _ (fun X : String => (X = "java/lang/IllegalStateException" ∧ c0 = 1) ∨ (X = "java/lang/IllegalArgumentException" ∧ c0 = 2)) p1 M (fun (r : Int32) (_ : pt_M) => c0 = 0 ∧ r = v0) hw) kw_839 kw_836 kw_52 kw_837 kw_838 ⟨by decide, by decide, by decide +kernel⟩ ⟨rfl, rfl, (Nat.le_of_ble_eq_true rfl), (Nat.le_of_ble_eq_true rfl)⟩ rfl hl.1 rfl (Nat.le_of_ble_eq_true rfl) dL_send_4 ⟨(Nat.le_of_ble_eq_true rfl), (Nat.le_of_ble_eq_true rfl)⟩) hS (fun q h => Or.inl h) (fun X ce q9 H locs hE hS hz ho hce hcv hcl => ?_) (fun r M1 H locs hw hP hS hz ho => ?_)
  · have hO1 := pw_keep hO hne ho
    rcases hE with ⟨rfl, rfl⟩ | ⟨rfl, rfl⟩
    · refine pw_hand (name := "java/lang/IllegalStateException") F htab [] { startPc := 0, endPc := 9, handlerPc := 12, catchType := 13 } [{ startPc := 0, endPc := 9, handlerPc := 15, catchType := 17 }] rfl (fun z hz => absurd hz List.not_mem_nil) (by decide) (by decide) kw_588 kw_597 hce hcv hcl ?_
      refine lv_astore_n (lv' := [(3, .ref q9), (0, .ref (ad 0)), (1, .int p1), (2, .ref ao)]) hx hb dL_send_12 rfl hl (by decide) rfl (fun ls hl => ?_)
      refine lv_iconst (v := 1) hx hb dL_send_13 (by decide) ?_
      refine W.widen (k := 2) (n := 12) (Nat.le_of_ble_eq_true rfl) (Nat.le_of_ble_eq_true rfl) ?_
      exact W.iret (v := 1) hx hb hr (fun t ht hW => ⟨⟨1, g0, rfl, ⟨rfl, fun h => absurd h (by decide)⟩, (show va_P D pt_cl (pw_O cA ao _) t.heap from by rw [ht]; exact hO1)⟩, hS.F ht⟩) hS.2.2 dL_send_14
    · refine pw_hand (name := "java/lang/IllegalArgumentException") F htab [{ startPc := 0, endPc := 9, handlerPc := 12, catchType := 13 }] { startPc := 0, endPc := 9, handlerPc := 15, catchType := 17 } [] rfl (List.forall_mem_cons.mpr ⟨⟨by decide, _, kw_588, hNc.2.1⟩, (fun z hz => absurd hz List.not_mem_nil)⟩) (by decide) (by decide) kw_590 kw_547 hce hcv hcl ?_
      refine lv_astore_n (lv' := [(3, .ref q9), (0, .ref (ad 0)), (1, .int p1), (2, .ref ao)]) hx hb dL_send_15 rfl hl (by decide) rfl (fun ls hl => ?_)
      refine lv_iconst (v := 2) hx hb dL_send_16 (by decide) ?_
      refine W.widen (k := 2) (n := 12) (Nat.le_of_ble_eq_true rfl) (Nat.le_of_ble_eq_true rfl) ?_
      exact W.iret (v := 2) hx hb hr (fun t ht hW => ⟨⟨2, g0, rfl, ⟨rfl, fun h => absurd h (by decide)⟩, (show va_P D pt_cl (pw_O cA ao _) t.heap from by rw [ht]; exact hO1)⟩, hS.F ht⟩) hS.2.2 dL_send_17
  · obtain ⟨ec, ev⟩ := hw
    have hO1 := pw_keep hO hne ho
    refine lv_i2l (v := r.toInt64) hx hb dL_send_7 rfl ?_
    refine pw_last (x := r.toInt64) F hO1 (Or.inr rfl) hS dL_send_8 (fun g1 H locs eg hO1 hS => ?_)
    refine lv_goto (tgt := 18) hx hb dL_send_9 (by decide) ?_
    refine lv_iconst (v := 0) hx hb dL_send_18 (by decide) ?_
    refine W.widen (k := 2) (n := 12) (Nat.le_of_ble_eq_true rfl) (Nat.le_of_ble_eq_true rfl) ?_
    exact W.iret (v := 0) hx hb hr (fun t ht hW => ⟨⟨0, g1, rfl, ⟨ec.symm, fun _ => by rw [eg, ev]⟩, (show va_P D pt_cl (pw_O cA ao _) t.heap from by rw [ht]; exact hO1)⟩, hS.F ht⟩) hS.2.2 dL_send_19
-- ===== tick
set_option maxHeartbeats 4000000 in
set_option maxRecDepth 100000 in
theorem mtL_tick (l : Launch) (hst : l.stackTraces = false) (D : va_G) (cA : Nat → ClassId) (ad : Nat → Nat) (hI : pt_I ad) (ao : Nat) (g0 : Nat → Int64) (sz : Nat) (p1 : Int32) (M : pt_M) (c0 v0 : Int32) (hw : wpVX7_tick (fun X : String => (X = "java/lang/IllegalStateException" ∧ c0 = 1) ∨ (X = "java/lang/IllegalArgumentException" ∧ c0 = 2)) p1 M (fun (r : Int32) (_ : pt_M) => c0 = 0 ∧ r = v0)) : Met l yL_tick (Cond.codeWith yL_tick cL_tick 4 (some .int) [(0, 9, 12, 13), (0, 9, 15, 17)] :: lw_all) ({ frames := 8, cells := 2, slots := 12, locals := 164 } : Room) (va_Pc [.ref (ad 0), .int p1, .ref ao] (pw_P D cA ad ao g0 sz M)) (va_Qi (fun (r : Int32) (g1 : Nat → Int64) => r = c0 ∧ (c0 = 0 → g1 0 = v0.toInt64)) (fun (g1 : Nat → Int64) (t : State) => va_P D pt_cl (pw_O cA ao g1) t.heap) (pw_fr ad ao sz)) 2 12 (pw_fr ad ao sz) := by
  refine pw_ofWH (cc := cL_tick) (maxL := 4) (ret := (some .int)) (hh := [(0, 9, 12, 13), (0, 9, 15, 17)]) (by decide) rfl ?_
  intro p e s m args below meth c s₁ B hml hv
  obtain ⟨rfl, ⟨hsz, hP, hK⟩, hZ, hO, hne, hNc⟩ := hv
  have hx := B.exec
  have hb := B.bytes
  have hr := B.returns
  have hts0 := atoms_spec (ws := (Cond.codeWith yL_tick cL_tick 4 (some .int) [(0, 9, 12, 13), (0, 9, 15, 17)] :: lw_all)) B.pre
  have hown : s.vm.findClass RL = some m.cls := findClass_of_methodNamed B.named
  have hlocks := B.notSynchronized
  have htab := vx_table (x := ({ cls := "", name := "", desc := "" } : MethodName)) B (hts0 _ List.mem_cons_self)
  subst hsz
  have F : pt_F p m c cL_tick 4 s _ RL D cA := ⟨⟨hx, hb, hml, hown, fun w h => hts0 w (List.mem_cons_of_mem _ h)⟩, hK⟩
  have hS : va_S (pw_fr ad ao s.heap.size) s.heap s.heap [] := va_S.rf
  have hl := lv_entry ([.ref (ad 0), .int p1, .ref ao]) (n := 4) (Nat.le_of_ble_eq_true rfl)
  rw [lg_entry_eq]
  generalize (lg_sl ([.ref (ad 0), .int p1, .ref ao]) ++ List.replicate (4 - (lg_sl ([.ref (ad 0), .int p1, .ref ao])).length) Slot.unset).toArray = ls at hl ⊢
  have hl : lv_has ls 4 [(0, .ref (ad 0)), (1, .int p1), (2, .ref ao)] := hl
  refine lv_aload_n hx hb dL_tick_0 rfl (lv_at hl 2 rfl) ?_
  refine lv_iconst (v := 0) hx hb dL_tick_1 (by decide) ?_
  refine lv_aload_n hx hb dL_tick_2 rfl (lv_at hl 0 rfl) ?_
  refine lv_iload_n hx hb dL_tick_3 rfl (lv_at hl 1 rfl) ?_
  refine px_calli (px_runV (n := 1) (As := [.int p1]) (rest := [.int 0, .ref ao]) F hP hZ hS (fun q h => Or.inl h) (pt_c7 _ pt_k0) (pt_l7 pt_k0) rfl (mtVX7_tick l hst D cA ad hI _ (fun X : String => (X = "java/lang/IllegalStateException" ∧ c0 = 1) ∨ (X = "java/lang/IllegalArgumentException" ∧ c0 = 2)) p1 M (fun (r : Int32) (_ : pt_M) => c0 = 0 ∧ r = v0) hw) kw_849 kw_846 kw_52 kw_847 kw_848 ⟨by decide, by decide, by decide +kernel⟩ ⟨rfl, rfl, (Nat.le_of_ble_eq_true rfl), (Nat.le_of_ble_eq_true rfl)⟩ rfl hl.1 rfl (Nat.le_of_ble_eq_true rfl) dL_tick_4 ⟨(Nat.le_of_ble_eq_true rfl), (Nat.le_of_ble_eq_true rfl)⟩) hS (fun q h => Or.inl h) (fun X ce q9 H locs hE hS hz ho hce hcv hcl => ?_) (fun r M1 H locs hw hP hS hz ho => ?_)
  · have hO1 := pw_keep hO hne ho
    rcases hE with ⟨rfl, rfl⟩ | ⟨rfl, rfl⟩
    · refine pw_hand (name := "java/lang/IllegalStateException") F htab [] { startPc := 0, endPc := 9, handlerPc := 12, catchType := 13 } [{ startPc := 0, endPc := 9, handlerPc := 15, catchType := 17 }] rfl (fun z hz => absurd hz List.not_mem_nil) (by decide) (by decide) kw_588 kw_597 hce hcv hcl ?_
      refine lv_astore_n (lv' := [(3, .ref q9), (0, .ref (ad 0)), (1, .int p1), (2, .ref ao)]) hx hb dL_tick_12 rfl hl (by decide) rfl (fun ls hl => ?_)
      refine lv_iconst (v := 1) hx hb dL_tick_13 (by decide) ?_
      refine W.widen (k := 2) (n := 12) (Nat.le_of_ble_eq_true rfl) (Nat.le_of_ble_eq_true rfl) ?_
      exact W.iret (v := 1) hx hb hr (fun t ht hW => ⟨⟨1, g0, rfl, ⟨rfl, fun h => absurd h (by decide)⟩, (show va_P D pt_cl (pw_O cA ao _) t.heap from by rw [ht]; exact hO1)⟩, hS.F ht⟩) hS.2.2 dL_tick_14
    · refine pw_hand (name := "java/lang/IllegalArgumentException") F htab [{ startPc := 0, endPc := 9, handlerPc := 12, catchType := 13 }] { startPc := 0, endPc := 9, handlerPc := 15, catchType := 17 } [] rfl (List.forall_mem_cons.mpr ⟨⟨by decide, _, kw_588, hNc.2.1⟩, (fun z hz => absurd hz List.not_mem_nil)⟩) (by decide) (by decide) kw_590 kw_547 hce hcv hcl ?_
      refine lv_astore_n (lv' := [(3, .ref q9), (0, .ref (ad 0)), (1, .int p1), (2, .ref ao)]) hx hb dL_tick_15 rfl hl (by decide) rfl (fun ls hl => ?_)
      refine lv_iconst (v := 2) hx hb dL_tick_16 (by decide) ?_
      refine W.widen (k := 2) (n := 12) (Nat.le_of_ble_eq_true rfl) (Nat.le_of_ble_eq_true rfl) ?_
      exact W.iret (v := 2) hx hb hr (fun t ht hW => ⟨⟨2, g0, rfl, ⟨rfl, fun h => absurd h (by decide)⟩, (show va_P D pt_cl (pw_O cA ao _) t.heap from by rw [ht]; exact hO1)⟩, hS.F ht⟩) hS.2.2 dL_tick_17
  · obtain ⟨ec, ev⟩ := hw
    have hO1 := pw_keep hO hne ho
    refine lv_i2l (v := r.toInt64) hx hb dL_tick_7 rfl ?_
    refine pw_last (x := r.toInt64) F hO1 (Or.inr rfl) hS dL_tick_8 (fun g1 H locs eg hO1 hS => ?_)
    refine lv_goto (tgt := 18) hx hb dL_tick_9 (by decide) ?_
    refine lv_iconst (v := 0) hx hb dL_tick_18 (by decide) ?_
    refine W.widen (k := 2) (n := 12) (Nat.le_of_ble_eq_true rfl) (Nat.le_of_ble_eq_true rfl) ?_
    exact W.iret (v := 0) hx hb hr (fun t ht hW => ⟨⟨0, g1, rfl, ⟨ec.symm, fun _ => by rw [eg, ev]⟩, (show va_P D pt_cl (pw_O cA ao _) t.heap from by rw [ht]; exact hO1)⟩, hS.F ht⟩) hS.2.2 dL_tick_19
-- ===== ofState
set_option maxHeartbeats 4000000 in
set_option maxRecDepth 100000 in
theorem mtL_ofState (l : Launch) (hst : l.stackTraces = false) (D : va_G) (cA : Nat → ClassId) (ad : Nat → Nat) (hI : pt_I ad) (ao : Nat) (g0 : Nat → Int64) (sz : Nat) (p1 : Int32) (p2 : Int32) (M : pt_M) (c0 v0 : Int32) (hw : wpVX7_ofState (fun X : String => (X = "java/lang/IndexOutOfBoundsException" ∧ c0 = 1) ∨ (X = "java/lang/IllegalArgumentException" ∧ c0 = 2)) p1 p2 M (fun (r : Int32) (_ : pt_M) => c0 = 0 ∧ r = v0)) : Met l yL_ofState (Cond.codeWith yL_ofState cL_ofState 5 (some .int) [(0, 10, 13, 15), (0, 10, 17, 17)] :: lw_all) ({ frames := 8, cells := 2, slots := 12, locals := 125 } : Room) (va_Pc [.ref (ad 0), .int p1, .int p2, .ref ao] (pw_P D cA ad ao g0 sz M)) (va_Qi (fun (r : Int32) (g1 : Nat → Int64) => r = c0 ∧ (c0 = 0 → g1 0 = v0.toInt64)) (fun (g1 : Nat → Int64) (t : State) => va_P D pt_cl (pw_O cA ao g1) t.heap) (pw_fr ad ao sz)) 2 12 (pw_fr ad ao sz) := by
  refine pw_ofWH (cc := cL_ofState) (maxL := 5) (ret := (some .int)) (hh := [(0, 10, 13, 15), (0, 10, 17, 17)]) (by decide) rfl ?_
  intro p e s m args below meth c s₁ B hml hv
  obtain ⟨rfl, ⟨hsz, hP, hK⟩, hZ, hO, hne, hNc⟩ := hv
  have hx := B.exec
  have hb := B.bytes
  have hr := B.returns
  have hts0 := atoms_spec (ws := (Cond.codeWith yL_ofState cL_ofState 5 (some .int) [(0, 10, 13, 15), (0, 10, 17, 17)] :: lw_all)) B.pre
  have hown : s.vm.findClass RL = some m.cls := findClass_of_methodNamed B.named
  have hlocks := B.notSynchronized
  have htab := vx_table (x := ({ cls := "", name := "", desc := "" } : MethodName)) B (hts0 _ List.mem_cons_self)
  subst hsz
  have F : pt_F p m c cL_ofState 5 s _ RL D cA := ⟨⟨hx, hb, hml, hown, fun w h => hts0 w (List.mem_cons_of_mem _ h)⟩, hK⟩
  have hS : va_S (pw_fr ad ao s.heap.size) s.heap s.heap [] := va_S.rf
  have hl := lv_entry ([.ref (ad 0), .int p1, .int p2, .ref ao]) (n := 5) (Nat.le_of_ble_eq_true rfl)
  rw [lg_entry_eq]
  generalize (lg_sl ([.ref (ad 0), .int p1, .int p2, .ref ao]) ++ List.replicate (5 - (lg_sl ([.ref (ad 0), .int p1, .int p2, .ref ao])).length) Slot.unset).toArray = ls at hl ⊢
  have hl : lv_has ls 5 [(0, .ref (ad 0)), (1, .int p1), (2, .int p2), (3, .ref ao)] := hl
  refine lv_aload_n hx hb dL_ofState_0 rfl (lv_at hl 3 rfl) ?_
  refine lv_iconst (v := 0) hx hb dL_ofState_1 (by decide) ?_
  refine lv_aload_n hx hb dL_ofState_2 rfl (lv_at hl 0 rfl) ?_
  refine lv_iload_n hx hb dL_ofState_3 rfl (lv_at hl 1 rfl) ?_
  refine lv_iload_n hx hb dL_ofState_4 rfl (lv_at hl 2 rfl) ?_
  refine px_calli (px_runV (n := 2) (As := [.int p1, .int p2]) (rest := [.int 0, .ref ao]) F hP hZ hS (fun q h => Or.inl h) (pt_c7 _ pt_k0) (pt_l7 pt_k0) rfl (mtVX7_ofState l hst D cA ad hI _ (fun X : String => (X = "java/lang/IndexOutOfBoundsException" ∧ c0 = 1) ∨ (X = "java/lang/IllegalArgumentException" ∧ c0 = 2)) p1 p2 M (fun (r : Int32) (_ : pt_M) => c0 = 0 ∧ r = v0) hw) kw_477 kw_853 kw_52 kw_475 kw_476 ⟨by decide, by decide, by decide +kernel⟩ ⟨rfl, rfl, (Nat.le_of_ble_eq_true rfl), (Nat.le_of_ble_eq_true rfl)⟩ rfl hl.1 rfl (Nat.le_of_ble_eq_true rfl) dL_ofState_5 ⟨(Nat.le_of_ble_eq_true rfl), (Nat.le_of_ble_eq_true rfl)⟩) hS (fun q h => Or.inl h) (fun X ce q9 H locs hE hS hz ho hce hcv hcl => ?_) (fun r M1 H locs hw hP hS hz ho => ?_)
  · have hO1 := pw_keep hO hne ho
    rcases hE with ⟨rfl, rfl⟩ | ⟨rfl, rfl⟩
    · refine pw_hand (name := "java/lang/IndexOutOfBoundsException") F htab [] { startPc := 0, endPc := 10, handlerPc := 13, catchType := 15 } [{ startPc := 0, endPc := 10, handlerPc := 17, catchType := 17 }] rfl (fun z hz => absurd hz List.not_mem_nil) (by decide) (by decide) kw_589 kw_484 hce hcv hcl ?_
      refine lv_astore (lv' := [(4, .ref q9), (0, .ref (ad 0)), (1, .int p1), (2, .int p2), (3, .ref ao)]) hx hb dL_ofState_13 hl (by decide) rfl (fun ls hl => ?_)
      refine lv_iconst (v := 1) hx hb dL_ofState_15 (by decide) ?_
      refine W.widen (k := 2) (n := 12) (Nat.le_of_ble_eq_true rfl) (Nat.le_of_ble_eq_true rfl) ?_
      exact W.iret (v := 1) hx hb hr (fun t ht hW => ⟨⟨1, g0, rfl, ⟨rfl, fun h => absurd h (by decide)⟩, (show va_P D pt_cl (pw_O cA ao _) t.heap from by rw [ht]; exact hO1)⟩, hS.F ht⟩) hS.2.2 dL_ofState_16
    · refine pw_hand (name := "java/lang/IllegalArgumentException") F htab [{ startPc := 0, endPc := 10, handlerPc := 13, catchType := 15 }] { startPc := 0, endPc := 10, handlerPc := 17, catchType := 17 } [] rfl (List.forall_mem_cons.mpr ⟨⟨by decide, _, kw_589, hNc.2.2⟩, (fun z hz => absurd hz List.not_mem_nil)⟩) (by decide) (by decide) kw_590 kw_547 hce hcv hcl ?_
      refine lv_astore (lv' := [(4, .ref q9), (0, .ref (ad 0)), (1, .int p1), (2, .int p2), (3, .ref ao)]) hx hb dL_ofState_17 hl (by decide) rfl (fun ls hl => ?_)
      refine lv_iconst (v := 2) hx hb dL_ofState_19 (by decide) ?_
      refine W.widen (k := 2) (n := 12) (Nat.le_of_ble_eq_true rfl) (Nat.le_of_ble_eq_true rfl) ?_
      exact W.iret (v := 2) hx hb hr (fun t ht hW => ⟨⟨2, g0, rfl, ⟨rfl, fun h => absurd h (by decide)⟩, (show va_P D pt_cl (pw_O cA ao _) t.heap from by rw [ht]; exact hO1)⟩, hS.F ht⟩) hS.2.2 dL_ofState_20
  · obtain ⟨ec, ev⟩ := hw
    have hO1 := pw_keep hO hne ho
    refine lv_i2l (v := r.toInt64) hx hb dL_ofState_8 rfl ?_
    refine pw_last (x := r.toInt64) F hO1 (Or.inr rfl) hS dL_ofState_9 (fun g1 H locs eg hO1 hS => ?_)
    refine lv_goto (tgt := 21) hx hb dL_ofState_10 (by decide) ?_
    refine lv_iconst (v := 0) hx hb dL_ofState_21 (by decide) ?_
    refine W.widen (k := 2) (n := 12) (Nat.le_of_ble_eq_true rfl) (Nat.le_of_ble_eq_true rfl) ?_
    exact W.iret (v := 0) hx hb hr (fun t ht hW => ⟨⟨0, g1, rfl, ⟨ec.symm, fun _ => by rw [eg, ev]⟩, (show va_P D pt_cl (pw_O cA ao _) t.heap from by rw [ht]; exact hO1)⟩, hS.F ht⟩) hS.2.2 dL_ofState_22
-- ===== isEnded
set_option maxHeartbeats 4000000 in
set_option maxRecDepth 100000 in
theorem mtL_isEnded (l : Launch) (hst : l.stackTraces = false) (D : va_G) (cA : Nat → ClassId) (ad : Nat → Nat) (hI : pt_I ad) (ao : Nat) (g0 : Nat → Int64) (sz : Nat) (p1 : Int32) (M : pt_M) (c0 v0 : Int32) (hw : wpVX7_isEnded (fun X : String => (X = "java/lang/IndexOutOfBoundsException" ∧ c0 = 1)) p1 M (fun (r : Int32) (_ : pt_M) => c0 = 0 ∧ r = v0)) : Met l yL_isEnded (Cond.codeWith yL_isEnded cL_isEnded 4 (some .int) [(0, 16, 19, 15)] :: lw_all) ({ frames := 8, cells := 1, slots := 6, locals := 123 } : Room) (va_Pc [.ref (ad 0), .int p1, .ref ao] (pw_P D cA ad ao g0 sz M)) (va_Qi (fun (r : Int32) (g1 : Nat → Int64) => r = c0 ∧ (c0 = 0 → g1 0 = (if v0 = 0 then 0 else 1))) (fun (g1 : Nat → Int64) (t : State) => va_P D pt_cl (pw_O cA ao g1) t.heap) (pw_fr ad ao sz)) 1 6 (pw_fr ad ao sz) := by
  refine pw_ofWH (cc := cL_isEnded) (maxL := 4) (ret := (some .int)) (hh := [(0, 16, 19, 15)]) (by decide) rfl ?_
  intro p e s m args below meth c s₁ B hml hv
  obtain ⟨rfl, ⟨hsz, hP, hK⟩, hZ, hO, hne, hNc⟩ := hv
  have hx := B.exec
  have hb := B.bytes
  have hr := B.returns
  have hts0 := atoms_spec (ws := (Cond.codeWith yL_isEnded cL_isEnded 4 (some .int) [(0, 16, 19, 15)] :: lw_all)) B.pre
  have hown : s.vm.findClass RL = some m.cls := findClass_of_methodNamed B.named
  have hlocks := B.notSynchronized
  have htab := vx_table (x := ({ cls := "", name := "", desc := "" } : MethodName)) B (hts0 _ List.mem_cons_self)
  subst hsz
  have F : pt_F p m c cL_isEnded 4 s _ RL D cA := ⟨⟨hx, hb, hml, hown, fun w h => hts0 w (List.mem_cons_of_mem _ h)⟩, hK⟩
  have hS : va_S (pw_fr ad ao s.heap.size) s.heap s.heap [] := va_S.rf
  have hl := lv_entry ([.ref (ad 0), .int p1, .ref ao]) (n := 4) (Nat.le_of_ble_eq_true rfl)
  rw [lg_entry_eq]
  generalize (lg_sl ([.ref (ad 0), .int p1, .ref ao]) ++ List.replicate (4 - (lg_sl ([.ref (ad 0), .int p1, .ref ao])).length) Slot.unset).toArray = ls at hl ⊢
  have hl : lv_has ls 4 [(0, .ref (ad 0)), (1, .int p1), (2, .ref ao)] := hl
  refine lv_aload_n hx hb dL_isEnded_0 rfl (lv_at hl 2 rfl) ?_
  refine lv_iconst (v := 0) hx hb dL_isEnded_1 (by decide) ?_
  refine lv_aload_n hx hb dL_isEnded_2 rfl (lv_at hl 0 rfl) ?_
  refine lv_iload_n hx hb dL_isEnded_3 rfl (lv_at hl 1 rfl) ?_
  refine px_calli (px_runV (n := 1) (As := [.int p1]) (rest := [.int 0, .ref ao]) F hP hZ hS (fun q h => Or.inl h) (pt_c7 _ pt_k0) (pt_l7 pt_k0) rfl (mtVX7_isEnded l hst D cA ad hI _ (fun X : String => (X = "java/lang/IndexOutOfBoundsException" ∧ c0 = 1)) p1 M (fun (r : Int32) (_ : pt_M) => c0 = 0 ∧ r = v0) hw) kw_860 kw_857 kw_52 kw_858 kw_859 ⟨by decide, by decide, by decide +kernel⟩ ⟨rfl, rfl, (Nat.le_of_ble_eq_true rfl), (Nat.le_of_ble_eq_true rfl)⟩ rfl hl.1 rfl (Nat.le_of_ble_eq_true rfl) dL_isEnded_4 ⟨(Nat.le_of_ble_eq_true rfl), (Nat.le_of_ble_eq_true rfl)⟩) hS (fun q h => Or.inl h) (fun X ce q9 H locs hE hS hz ho hce hcv hcl => ?_) (fun r M1 H locs hw hP hS hz ho => ?_)
  · have hO1 := pw_keep hO hne ho
    obtain ⟨rfl, rfl⟩ := hE
    refine pw_hand (name := "java/lang/IndexOutOfBoundsException") F htab [] { startPc := 0, endPc := 16, handlerPc := 19, catchType := 15 } [] rfl (fun z hz => absurd hz List.not_mem_nil) (by decide) (by decide) kw_589 kw_484 hce hcv hcl ?_
    refine lv_astore_n (lv' := [(3, .ref q9), (0, .ref (ad 0)), (1, .int p1), (2, .ref ao)]) hx hb dL_isEnded_19 rfl hl (by decide) rfl (fun ls hl => ?_)
    refine lv_iconst (v := 1) hx hb dL_isEnded_20 (by decide) ?_
    refine W.widen (k := 1) (n := 6) (Nat.le_of_ble_eq_true rfl) (Nat.le_of_ble_eq_true rfl) ?_
    exact W.iret (v := 1) hx hb hr (fun t ht hW => ⟨⟨1, g0, rfl, ⟨rfl, fun h => absurd h (by decide)⟩, (show va_P D pt_cl (pw_O cA ao _) t.heap from by rw [ht]; exact hO1)⟩, hS.F ht⟩) hS.2.2 dL_isEnded_21
  · obtain ⟨ec, ev⟩ := hw
    have hO1 := pw_keep hO hne ho
    refine lv_if_eq (tgt := 14) hx hb dL_isEnded_7 (by decide) (fun hc => ?_) (fun hc => ?_)
    · refine lv_lconst (v := 0) hx hb dL_isEnded_14 rfl ?_
      refine pw_last (x := 0) F hO1 (Or.inr rfl) hS dL_isEnded_15 (fun g1 H locs eg hO1 hS => ?_)
      refine lv_goto (tgt := 22) hx hb dL_isEnded_16 (by decide) ?_
      refine lv_iconst (v := 0) hx hb dL_isEnded_22 (by decide) ?_
      refine W.widen (k := 1) (n := 6) (Nat.le_of_ble_eq_true rfl) (Nat.le_of_ble_eq_true rfl) ?_
      exact W.iret (v := 0) hx hb hr (fun t ht hW => ⟨⟨0, g1, rfl, ⟨ec.symm, fun _ => by rw [eg, ← ev, if_pos hc]⟩, (show va_P D pt_cl (pw_O cA ao _) t.heap from by rw [ht]; exact hO1)⟩, hS.F ht⟩) hS.2.2 dL_isEnded_23
    · refine lv_lconst (v := 1) hx hb dL_isEnded_10 rfl ?_
      refine lv_goto (tgt := 15) hx hb dL_isEnded_11 (by decide) ?_
      refine pw_last (x := 1) F hO1 (Or.inr rfl) hS dL_isEnded_15 (fun g1 H locs eg hO1 hS => ?_)
      refine lv_goto (tgt := 22) hx hb dL_isEnded_16 (by decide) ?_
      refine lv_iconst (v := 0) hx hb dL_isEnded_22 (by decide) ?_
      refine W.widen (k := 1) (n := 6) (Nat.le_of_ble_eq_true rfl) (Nat.le_of_ble_eq_true rfl) ?_
      exact W.iret (v := 0) hx hb hr (fun t ht hW => ⟨⟨0, g1, rfl, ⟨ec.symm, fun _ => by rw [eg, ← ev, if_neg hc]⟩, (show va_P D pt_cl (pw_O cA ao _) t.heap from by rw [ht]; exact hO1)⟩, hS.F ht⟩) hS.2.2 dL_isEnded_23
-- ===== ageOf
set_option maxHeartbeats 4000000 in
set_option maxRecDepth 100000 in
theorem mtL_ageOf (l : Launch) (hst : l.stackTraces = false) (D : va_G) (cA : Nat → ClassId) (ad : Nat → Nat) (hI : pt_I ad) (ao : Nat) (g0 : Nat → Int64) (sz : Nat) (p1 : Int32) (M : pt_M) (c0 v0 : Int32) (hw : wpVX7_ageOf (fun X : String => (X = "java/lang/IndexOutOfBoundsException" ∧ c0 = 1)) p1 M (fun (r : Int32) (_ : pt_M) => c0 = 0 ∧ r = v0)) : Met l yL_ageOf (Cond.codeWith yL_ageOf cL_ageOf 4 (some .int) [(0, 9, 12, 15)] :: lw_all) ({ frames := 8, cells := 1, slots := 6, locals := 123 } : Room) (va_Pc [.ref (ad 0), .int p1, .ref ao] (pw_P D cA ad ao g0 sz M)) (va_Qi (fun (r : Int32) (g1 : Nat → Int64) => r = c0 ∧ (c0 = 0 → g1 0 = v0.toInt64)) (fun (g1 : Nat → Int64) (t : State) => va_P D pt_cl (pw_O cA ao g1) t.heap) (pw_fr ad ao sz)) 1 6 (pw_fr ad ao sz) := by
  refine pw_ofWH (cc := cL_ageOf) (maxL := 4) (ret := (some .int)) (hh := [(0, 9, 12, 15)]) (by decide) rfl ?_
  intro p e s m args below meth c s₁ B hml hv
  obtain ⟨rfl, ⟨hsz, hP, hK⟩, hZ, hO, hne, hNc⟩ := hv
  have hx := B.exec
  have hb := B.bytes
  have hr := B.returns
  have hts0 := atoms_spec (ws := (Cond.codeWith yL_ageOf cL_ageOf 4 (some .int) [(0, 9, 12, 15)] :: lw_all)) B.pre
  have hown : s.vm.findClass RL = some m.cls := findClass_of_methodNamed B.named
  have hlocks := B.notSynchronized
  have htab := vx_table (x := ({ cls := "", name := "", desc := "" } : MethodName)) B (hts0 _ List.mem_cons_self)
  subst hsz
  have F : pt_F p m c cL_ageOf 4 s _ RL D cA := ⟨⟨hx, hb, hml, hown, fun w h => hts0 w (List.mem_cons_of_mem _ h)⟩, hK⟩
  have hS : va_S (pw_fr ad ao s.heap.size) s.heap s.heap [] := va_S.rf
  have hl := lv_entry ([.ref (ad 0), .int p1, .ref ao]) (n := 4) (Nat.le_of_ble_eq_true rfl)
  rw [lg_entry_eq]
  generalize (lg_sl ([.ref (ad 0), .int p1, .ref ao]) ++ List.replicate (4 - (lg_sl ([.ref (ad 0), .int p1, .ref ao])).length) Slot.unset).toArray = ls at hl ⊢
  have hl : lv_has ls 4 [(0, .ref (ad 0)), (1, .int p1), (2, .ref ao)] := hl
  refine lv_aload_n hx hb dL_ageOf_0 rfl (lv_at hl 2 rfl) ?_
  refine lv_iconst (v := 0) hx hb dL_ageOf_1 (by decide) ?_
  refine lv_aload_n hx hb dL_ageOf_2 rfl (lv_at hl 0 rfl) ?_
  refine lv_iload_n hx hb dL_ageOf_3 rfl (lv_at hl 1 rfl) ?_
  refine px_calli (px_runV (n := 1) (As := [.int p1]) (rest := [.int 0, .ref ao]) F hP hZ hS (fun q h => Or.inl h) (pt_c7 _ pt_k0) (pt_l7 pt_k0) rfl (mtVX7_ageOf l hst D cA ad hI _ (fun X : String => (X = "java/lang/IndexOutOfBoundsException" ∧ c0 = 1)) p1 M (fun (r : Int32) (_ : pt_M) => c0 = 0 ∧ r = v0) hw) kw_563 kw_864 kw_52 kw_561 kw_562 ⟨by decide, by decide, by decide +kernel⟩ ⟨rfl, rfl, (Nat.le_of_ble_eq_true rfl), (Nat.le_of_ble_eq_true rfl)⟩ rfl hl.1 rfl (Nat.le_of_ble_eq_true rfl) dL_ageOf_4 ⟨(Nat.le_of_ble_eq_true rfl), (Nat.le_of_ble_eq_true rfl)⟩) hS (fun q h => Or.inl h) (fun X ce q9 H locs hE hS hz ho hce hcv hcl => ?_) (fun r M1 H locs hw hP hS hz ho => ?_)
  · have hO1 := pw_keep hO hne ho
    obtain ⟨rfl, rfl⟩ := hE
    refine pw_hand (name := "java/lang/IndexOutOfBoundsException") F htab [] { startPc := 0, endPc := 9, handlerPc := 12, catchType := 15 } [] rfl (fun z hz => absurd hz List.not_mem_nil) (by decide) (by decide) kw_589 kw_484 hce hcv hcl ?_
    refine lv_astore_n (lv' := [(3, .ref q9), (0, .ref (ad 0)), (1, .int p1), (2, .ref ao)]) hx hb dL_ageOf_12 rfl hl (by decide) rfl (fun ls hl => ?_)
    refine lv_iconst (v := 1) hx hb dL_ageOf_13 (by decide) ?_
    refine W.widen (k := 1) (n := 6) (Nat.le_of_ble_eq_true rfl) (Nat.le_of_ble_eq_true rfl) ?_
    exact W.iret (v := 1) hx hb hr (fun t ht hW => ⟨⟨1, g0, rfl, ⟨rfl, fun h => absurd h (by decide)⟩, (show va_P D pt_cl (pw_O cA ao _) t.heap from by rw [ht]; exact hO1)⟩, hS.F ht⟩) hS.2.2 dL_ageOf_14
  · obtain ⟨ec, ev⟩ := hw
    have hO1 := pw_keep hO hne ho
    refine lv_i2l (v := r.toInt64) hx hb dL_ageOf_7 rfl ?_
    refine pw_last (x := r.toInt64) F hO1 (Or.inr rfl) hS dL_ageOf_8 (fun g1 H locs eg hO1 hS => ?_)
    refine lv_goto (tgt := 15) hx hb dL_ageOf_9 (by decide) ?_
    refine lv_iconst (v := 0) hx hb dL_ageOf_15 (by decide) ?_
    refine W.widen (k := 1) (n := 6) (Nat.le_of_ble_eq_true rfl) (Nat.le_of_ble_eq_true rfl) ?_
    exact W.iret (v := 0) hx hb hr (fun t ht hW => ⟨⟨0, g1, rfl, ⟨ec.symm, fun _ => by rw [eg, ev]⟩, (show va_P D pt_cl (pw_O cA ao _) t.heap from by rw [ht]; exact hO1)⟩, hS.F ht⟩) hS.2.2 dL_ageOf_16
-- ===== record
set_option maxHeartbeats 4000000 in
set_option maxRecDepth 100000 in
theorem mtL_record (l : Launch) (hst : l.stackTraces = false) (D : va_G) (cA : Nat → ClassId) (ad : Nat → Nat) (hI : pt_I ad) (ao : Nat) (g0 : Nat → Int64) (sz : Nat) (p1 : Int32) (M : pt_M) (c0 v0 : Int32) (hw : wpVX7_record (fun X : String => (X = "java/lang/IndexOutOfBoundsException" ∧ c0 = 1) ∨ (X = "java/lang/IllegalArgumentException" ∧ c0 = 2)) p1 M (fun (r : Int32) (_ : pt_M) => c0 = 0 ∧ r = v0)) : Met l yL_record (Cond.codeWith yL_record cL_record 4 (some .int) [(0, 9, 12, 15), (0, 9, 15, 17)] :: lw_all) ({ frames := 8, cells := 2, slots := 12, locals := 123 } : Room) (va_Pc [.ref (ad 0), .int p1, .ref ao] (pw_P D cA ad ao g0 sz M)) (va_Qi (fun (r : Int32) (g1 : Nat → Int64) => r = c0 ∧ (c0 = 0 → g1 0 = v0.toInt64)) (fun (g1 : Nat → Int64) (t : State) => va_P D pt_cl (pw_O cA ao g1) t.heap) (pw_fr ad ao sz)) 2 12 (pw_fr ad ao sz) := by
  refine pw_ofWH (cc := cL_record) (maxL := 4) (ret := (some .int)) (hh := [(0, 9, 12, 15), (0, 9, 15, 17)]) (by decide) rfl ?_
  intro p e s m args below meth c s₁ B hml hv
  obtain ⟨rfl, ⟨hsz, hP, hK⟩, hZ, hO, hne, hNc⟩ := hv
  have hx := B.exec
  have hb := B.bytes
  have hr := B.returns
  have hts0 := atoms_spec (ws := (Cond.codeWith yL_record cL_record 4 (some .int) [(0, 9, 12, 15), (0, 9, 15, 17)] :: lw_all)) B.pre
  have hown : s.vm.findClass RL = some m.cls := findClass_of_methodNamed B.named
  have hlocks := B.notSynchronized
  have htab := vx_table (x := ({ cls := "", name := "", desc := "" } : MethodName)) B (hts0 _ List.mem_cons_self)
  subst hsz
  have F : pt_F p m c cL_record 4 s _ RL D cA := ⟨⟨hx, hb, hml, hown, fun w h => hts0 w (List.mem_cons_of_mem _ h)⟩, hK⟩
  have hS : va_S (pw_fr ad ao s.heap.size) s.heap s.heap [] := va_S.rf
  have hl := lv_entry ([.ref (ad 0), .int p1, .ref ao]) (n := 4) (Nat.le_of_ble_eq_true rfl)
  rw [lg_entry_eq]
  generalize (lg_sl ([.ref (ad 0), .int p1, .ref ao]) ++ List.replicate (4 - (lg_sl ([.ref (ad 0), .int p1, .ref ao])).length) Slot.unset).toArray = ls at hl ⊢
  have hl : lv_has ls 4 [(0, .ref (ad 0)), (1, .int p1), (2, .ref ao)] := hl
  refine lv_aload_n hx hb dL_record_0 rfl (lv_at hl 2 rfl) ?_
  refine lv_iconst (v := 0) hx hb dL_record_1 (by decide) ?_
  refine lv_aload_n hx hb dL_record_2 rfl (lv_at hl 0 rfl) ?_
  refine lv_iload_n hx hb dL_record_3 rfl (lv_at hl 1 rfl) ?_
  refine px_calli (px_runV (n := 1) (As := [.int p1]) (rest := [.int 0, .ref ao]) F hP hZ hS (fun q h => Or.inl h) (pt_c7 _ pt_k0) (pt_l7 pt_k0) rfl (mtVX7_record l hst D cA ad hI _ (fun X : String => (X = "java/lang/IndexOutOfBoundsException" ∧ c0 = 1) ∨ (X = "java/lang/IllegalArgumentException" ∧ c0 = 2)) p1 M (fun (r : Int32) (_ : pt_M) => c0 = 0 ∧ r = v0) hw) kw_571 kw_868 kw_52 kw_569 kw_570 ⟨by decide, by decide, by decide +kernel⟩ ⟨rfl, rfl, (Nat.le_of_ble_eq_true rfl), (Nat.le_of_ble_eq_true rfl)⟩ rfl hl.1 rfl (Nat.le_of_ble_eq_true rfl) dL_record_4 ⟨(Nat.le_of_ble_eq_true rfl), (Nat.le_of_ble_eq_true rfl)⟩) hS (fun q h => Or.inl h) (fun X ce q9 H locs hE hS hz ho hce hcv hcl => ?_) (fun r M1 H locs hw hP hS hz ho => ?_)
  · have hO1 := pw_keep hO hne ho
    rcases hE with ⟨rfl, rfl⟩ | ⟨rfl, rfl⟩
    · refine pw_hand (name := "java/lang/IndexOutOfBoundsException") F htab [] { startPc := 0, endPc := 9, handlerPc := 12, catchType := 15 } [{ startPc := 0, endPc := 9, handlerPc := 15, catchType := 17 }] rfl (fun z hz => absurd hz List.not_mem_nil) (by decide) (by decide) kw_589 kw_484 hce hcv hcl ?_
      refine lv_astore_n (lv' := [(3, .ref q9), (0, .ref (ad 0)), (1, .int p1), (2, .ref ao)]) hx hb dL_record_12 rfl hl (by decide) rfl (fun ls hl => ?_)
      refine lv_iconst (v := 1) hx hb dL_record_13 (by decide) ?_
      refine W.widen (k := 2) (n := 12) (Nat.le_of_ble_eq_true rfl) (Nat.le_of_ble_eq_true rfl) ?_
      exact W.iret (v := 1) hx hb hr (fun t ht hW => ⟨⟨1, g0, rfl, ⟨rfl, fun h => absurd h (by decide)⟩, (show va_P D pt_cl (pw_O cA ao _) t.heap from by rw [ht]; exact hO1)⟩, hS.F ht⟩) hS.2.2 dL_record_14
    · refine pw_hand (name := "java/lang/IllegalArgumentException") F htab [{ startPc := 0, endPc := 9, handlerPc := 12, catchType := 15 }] { startPc := 0, endPc := 9, handlerPc := 15, catchType := 17 } [] rfl (List.forall_mem_cons.mpr ⟨⟨by decide, _, kw_589, hNc.2.2⟩, (fun z hz => absurd hz List.not_mem_nil)⟩) (by decide) (by decide) kw_590 kw_547 hce hcv hcl ?_
      refine lv_astore_n (lv' := [(3, .ref q9), (0, .ref (ad 0)), (1, .int p1), (2, .ref ao)]) hx hb dL_record_15 rfl hl (by decide) rfl (fun ls hl => ?_)
      refine lv_iconst (v := 2) hx hb dL_record_16 (by decide) ?_
      refine W.widen (k := 2) (n := 12) (Nat.le_of_ble_eq_true rfl) (Nat.le_of_ble_eq_true rfl) ?_
      exact W.iret (v := 2) hx hb hr (fun t ht hW => ⟨⟨2, g0, rfl, ⟨rfl, fun h => absurd h (by decide)⟩, (show va_P D pt_cl (pw_O cA ao _) t.heap from by rw [ht]; exact hO1)⟩, hS.F ht⟩) hS.2.2 dL_record_17
  · obtain ⟨ec, ev⟩ := hw
    have hO1 := pw_keep hO hne ho
    refine lv_i2l (v := r.toInt64) hx hb dL_record_7 rfl ?_
    refine pw_last (x := r.toInt64) F hO1 (Or.inr rfl) hS dL_record_8 (fun g1 H locs eg hO1 hS => ?_)
    refine lv_goto (tgt := 18) hx hb dL_record_9 (by decide) ?_
    refine lv_iconst (v := 0) hx hb dL_record_18 (by decide) ?_
    refine W.widen (k := 2) (n := 12) (Nat.le_of_ble_eq_true rfl) (Nat.le_of_ble_eq_true rfl) ?_
    exact W.iret (v := 0) hx hb hr (fun t ht hW => ⟨⟨0, g1, rfl, ⟨ec.symm, fun _ => by rw [eg, ev]⟩, (show va_P D pt_cl (pw_O cA ao _) t.heap from by rw [ht]; exact hO1)⟩, hS.F ht⟩) hS.2.2 dL_record_19
-- ===== variable
set_option maxHeartbeats 4000000 in
set_option maxRecDepth 100000 in
theorem mtL_variable (l : Launch) (hst : l.stackTraces = false) (D : va_G) (cA : Nat → ClassId) (ad : Nat → Nat) (hI : pt_I ad) (ao : Nat) (g0 : Nat → Int64) (sz : Nat) (p1 : Int32) (M : pt_M) (c0 v0 : Int32) (hw : wpVX7_variable (fun X : String => (X = "java/lang/IndexOutOfBoundsException" ∧ c0 = 1)) p1 M (fun (r : Int32) (_ : pt_M) => c0 = 0 ∧ r = v0)) : Met l yL_variable (Cond.codeWith yL_variable cL_variable 4 (some .int) [(0, 9, 12, 15)] :: lw_all) ({ frames := 7, cells := 1, slots := 6, locals := 102 } : Room) (va_Pc [.ref (ad 0), .int p1, .ref ao] (pw_P D cA ad ao g0 sz M)) (va_Qi (fun (r : Int32) (g1 : Nat → Int64) => r = c0 ∧ (c0 = 0 → g1 0 = v0.toInt64)) (fun (g1 : Nat → Int64) (t : State) => va_P D pt_cl (pw_O cA ao g1) t.heap) (pw_fr ad ao sz)) 1 6 (pw_fr ad ao sz) := by
  refine pw_ofWH (cc := cL_variable) (maxL := 4) (ret := (some .int)) (hh := [(0, 9, 12, 15)]) (by decide) rfl ?_
  intro p e s m args below meth c s₁ B hml hv
  obtain ⟨rfl, ⟨hsz, hP, hK⟩, hZ, hO, hne, hNc⟩ := hv
  have hx := B.exec
  have hb := B.bytes
  have hr := B.returns
  have hts0 := atoms_spec (ws := (Cond.codeWith yL_variable cL_variable 4 (some .int) [(0, 9, 12, 15)] :: lw_all)) B.pre
  have hown : s.vm.findClass RL = some m.cls := findClass_of_methodNamed B.named
  have hlocks := B.notSynchronized
  have htab := vx_table (x := ({ cls := "", name := "", desc := "" } : MethodName)) B (hts0 _ List.mem_cons_self)
  subst hsz
  have F : pt_F p m c cL_variable 4 s _ RL D cA := ⟨⟨hx, hb, hml, hown, fun w h => hts0 w (List.mem_cons_of_mem _ h)⟩, hK⟩
  have hS : va_S (pw_fr ad ao s.heap.size) s.heap s.heap [] := va_S.rf
  have hl := lv_entry ([.ref (ad 0), .int p1, .ref ao]) (n := 4) (Nat.le_of_ble_eq_true rfl)
  rw [lg_entry_eq]
  generalize (lg_sl ([.ref (ad 0), .int p1, .ref ao]) ++ List.replicate (4 - (lg_sl ([.ref (ad 0), .int p1, .ref ao])).length) Slot.unset).toArray = ls at hl ⊢
  have hl : lv_has ls 4 [(0, .ref (ad 0)), (1, .int p1), (2, .ref ao)] := hl
  refine lv_aload_n hx hb dL_variable_0 rfl (lv_at hl 2 rfl) ?_
  refine lv_iconst (v := 0) hx hb dL_variable_1 (by decide) ?_
  refine lv_aload_n hx hb dL_variable_2 rfl (lv_at hl 0 rfl) ?_
  refine lv_iload_n hx hb dL_variable_3 rfl (lv_at hl 1 rfl) ?_
  refine px_calli (px_runV (n := 1) (As := [.int p1]) (rest := [.int 0, .ref ao]) F hP hZ hS (fun q h => Or.inl h) (pt_c7 _ pt_k0) (pt_l7 pt_k0) rfl (mtVX7_variable l hst D cA ad hI _ (fun X : String => (X = "java/lang/IndexOutOfBoundsException" ∧ c0 = 1)) p1 M (fun (r : Int32) (_ : pt_M) => c0 = 0 ∧ r = v0) hw) kw_575 kw_872 kw_52 kw_573 kw_574 ⟨by decide, by decide, by decide +kernel⟩ ⟨rfl, rfl, (Nat.le_of_ble_eq_true rfl), (Nat.le_of_ble_eq_true rfl)⟩ rfl hl.1 rfl (Nat.le_of_ble_eq_true rfl) dL_variable_4 ⟨(Nat.le_of_ble_eq_true rfl), (Nat.le_of_ble_eq_true rfl)⟩) hS (fun q h => Or.inl h) (fun X ce q9 H locs hE hS hz ho hce hcv hcl => ?_) (fun r M1 H locs hw hP hS hz ho => ?_)
  · have hO1 := pw_keep hO hne ho
    obtain ⟨rfl, rfl⟩ := hE
    refine pw_hand (name := "java/lang/IndexOutOfBoundsException") F htab [] { startPc := 0, endPc := 9, handlerPc := 12, catchType := 15 } [] rfl (fun z hz => absurd hz List.not_mem_nil) (by decide) (by decide) kw_589 kw_484 hce hcv hcl ?_
    refine lv_astore_n (lv' := [(3, .ref q9), (0, .ref (ad 0)), (1, .int p1), (2, .ref ao)]) hx hb dL_variable_12 rfl hl (by decide) rfl (fun ls hl => ?_)
    refine lv_iconst (v := 1) hx hb dL_variable_13 (by decide) ?_
    refine W.widen (k := 1) (n := 6) (Nat.le_of_ble_eq_true rfl) (Nat.le_of_ble_eq_true rfl) ?_
    exact W.iret (v := 1) hx hb hr (fun t ht hW => ⟨⟨1, g0, rfl, ⟨rfl, fun h => absurd h (by decide)⟩, (show va_P D pt_cl (pw_O cA ao _) t.heap from by rw [ht]; exact hO1)⟩, hS.F ht⟩) hS.2.2 dL_variable_14
  · obtain ⟨ec, ev⟩ := hw
    have hO1 := pw_keep hO hne ho
    refine lv_i2l (v := r.toInt64) hx hb dL_variable_7 rfl ?_
    refine pw_last (x := r.toInt64) F hO1 (Or.inr rfl) hS dL_variable_8 (fun g1 H locs eg hO1 hS => ?_)
    refine lv_goto (tgt := 15) hx hb dL_variable_9 (by decide) ?_
    refine lv_iconst (v := 0) hx hb dL_variable_15 (by decide) ?_
    refine W.widen (k := 1) (n := 6) (Nat.le_of_ble_eq_true rfl) (Nat.le_of_ble_eq_true rfl) ?_
    exact W.iret (v := 0) hx hb hr (fun t ht hW => ⟨⟨0, g1, rfl, ⟨ec.symm, fun _ => by rw [eg, ev]⟩, (show va_P D pt_cl (pw_O cA ao _) t.heap from by rw [ht]; exact hO1)⟩, hS.F ht⟩) hS.2.2 dL_variable_16
-- ===== fired
set_option maxHeartbeats 4000000 in
set_option maxRecDepth 100000 in
theorem mtL_fired (l : Launch) (hst : l.stackTraces = false) (D : va_G) (cA : Nat → ClassId) (ad : Nat → Nat) (hI : pt_I ad) (ao : Nat) (g0 : Nat → Int64) (sz : Nat) (p1 : Int32) (M : pt_M) (c0 v0 : Int32) (hw : wpVX7_fired (fun X : String => (X = "java/lang/IndexOutOfBoundsException" ∧ c0 = 1)) p1 M (fun (r : Int32) (_ : pt_M) => c0 = 0 ∧ r = v0)) : Met l yL_fired (Cond.codeWith yL_fired cL_fired 4 (some .int) [(0, 9, 12, 15)] :: lw_all) ({ frames := 8, cells := 1, slots := 6, locals := 123 } : Room) (va_Pc [.ref (ad 0), .int p1, .ref ao] (pw_P D cA ad ao g0 sz M)) (va_Qi (fun (r : Int32) (g1 : Nat → Int64) => r = c0 ∧ (c0 = 0 → g1 0 = v0.toInt64)) (fun (g1 : Nat → Int64) (t : State) => va_P D pt_cl (pw_O cA ao g1) t.heap) (pw_fr ad ao sz)) 1 6 (pw_fr ad ao sz) := by
  refine pw_ofWH (cc := cL_fired) (maxL := 4) (ret := (some .int)) (hh := [(0, 9, 12, 15)]) (by decide) rfl ?_
  intro p e s m args below meth c s₁ B hml hv
  obtain ⟨rfl, ⟨hsz, hP, hK⟩, hZ, hO, hne, hNc⟩ := hv
  have hx := B.exec
  have hb := B.bytes
  have hr := B.returns
  have hts0 := atoms_spec (ws := (Cond.codeWith yL_fired cL_fired 4 (some .int) [(0, 9, 12, 15)] :: lw_all)) B.pre
  have hown : s.vm.findClass RL = some m.cls := findClass_of_methodNamed B.named
  have hlocks := B.notSynchronized
  have htab := vx_table (x := ({ cls := "", name := "", desc := "" } : MethodName)) B (hts0 _ List.mem_cons_self)
  subst hsz
  have F : pt_F p m c cL_fired 4 s _ RL D cA := ⟨⟨hx, hb, hml, hown, fun w h => hts0 w (List.mem_cons_of_mem _ h)⟩, hK⟩
  have hS : va_S (pw_fr ad ao s.heap.size) s.heap s.heap [] := va_S.rf
  have hl := lv_entry ([.ref (ad 0), .int p1, .ref ao]) (n := 4) (Nat.le_of_ble_eq_true rfl)
  rw [lg_entry_eq]
  generalize (lg_sl ([.ref (ad 0), .int p1, .ref ao]) ++ List.replicate (4 - (lg_sl ([.ref (ad 0), .int p1, .ref ao])).length) Slot.unset).toArray = ls at hl ⊢
  have hl : lv_has ls 4 [(0, .ref (ad 0)), (1, .int p1), (2, .ref ao)] := hl
  refine lv_aload_n hx hb dL_fired_0 rfl (lv_at hl 2 rfl) ?_
  refine lv_iconst (v := 0) hx hb dL_fired_1 (by decide) ?_
  refine lv_aload_n hx hb dL_fired_2 rfl (lv_at hl 0 rfl) ?_
  refine lv_iload_n hx hb dL_fired_3 rfl (lv_at hl 1 rfl) ?_
  refine px_calli (px_runV (n := 1) (As := [.int p1]) (rest := [.int 0, .ref ao]) F hP hZ hS (fun q h => Or.inl h) (pt_c7 _ pt_k0) (pt_l7 pt_k0) rfl (mtVX7_fired l hst D cA ad hI _ (fun X : String => (X = "java/lang/IndexOutOfBoundsException" ∧ c0 = 1)) p1 M (fun (r : Int32) (_ : pt_M) => c0 = 0 ∧ r = v0) hw) kw_579 kw_876 kw_52 kw_577 kw_578 ⟨by decide, by decide, by decide +kernel⟩ ⟨rfl, rfl, (Nat.le_of_ble_eq_true rfl), (Nat.le_of_ble_eq_true rfl)⟩ rfl hl.1 rfl (Nat.le_of_ble_eq_true rfl) dL_fired_4 ⟨(Nat.le_of_ble_eq_true rfl), (Nat.le_of_ble_eq_true rfl)⟩) hS (fun q h => Or.inl h) (fun X ce q9 H locs hE hS hz ho hce hcv hcl => ?_) (fun r M1 H locs hw hP hS hz ho => ?_)
  · have hO1 := pw_keep hO hne ho
    obtain ⟨rfl, rfl⟩ := hE
    refine pw_hand (name := "java/lang/IndexOutOfBoundsException") F htab [] { startPc := 0, endPc := 9, handlerPc := 12, catchType := 15 } [] rfl (fun z hz => absurd hz List.not_mem_nil) (by decide) (by decide) kw_589 kw_484 hce hcv hcl ?_
    refine lv_astore_n (lv' := [(3, .ref q9), (0, .ref (ad 0)), (1, .int p1), (2, .ref ao)]) hx hb dL_fired_12 rfl hl (by decide) rfl (fun ls hl => ?_)
    refine lv_iconst (v := 1) hx hb dL_fired_13 (by decide) ?_
    refine W.widen (k := 1) (n := 6) (Nat.le_of_ble_eq_true rfl) (Nat.le_of_ble_eq_true rfl) ?_
    exact W.iret (v := 1) hx hb hr (fun t ht hW => ⟨⟨1, g0, rfl, ⟨rfl, fun h => absurd h (by decide)⟩, (show va_P D pt_cl (pw_O cA ao _) t.heap from by rw [ht]; exact hO1)⟩, hS.F ht⟩) hS.2.2 dL_fired_14
  · obtain ⟨ec, ev⟩ := hw
    have hO1 := pw_keep hO hne ho
    refine lv_i2l (v := r.toInt64) hx hb dL_fired_7 rfl ?_
    refine pw_last (x := r.toInt64) F hO1 (Or.inr rfl) hS dL_fired_8 (fun g1 H locs eg hO1 hS => ?_)
    refine lv_goto (tgt := 15) hx hb dL_fired_9 (by decide) ?_
    refine lv_iconst (v := 0) hx hb dL_fired_15 (by decide) ?_
    refine W.widen (k := 1) (n := 6) (Nat.le_of_ble_eq_true rfl) (Nat.le_of_ble_eq_true rfl) ?_
    exact W.iret (v := 0) hx hb hr (fun t ht hW => ⟨⟨0, g1, rfl, ⟨ec.symm, fun _ => by rw [eg, ev]⟩, (show va_P D pt_cl (pw_O cA ao _) t.heap from by rw [ht]; exact hO1)⟩, hS.F ht⟩) hS.2.2 dL_fired_16
-- ===== wouldFire
set_option maxHeartbeats 4000000 in
set_option maxRecDepth 100000 in
theorem mtL_wouldFire (l : Launch) (hst : l.stackTraces = false) (D : va_G) (cA : Nat → ClassId) (ad : Nat → Nat) (hI : pt_I ad) (ao : Nat) (g0 : Nat → Int64) (sz : Nat) (p1 : Int32) (M : pt_M) (c0 v0 : Int32) (hw : wpVX7_wouldFire (fun X : String => (X = "java/lang/IllegalStateException" ∧ c0 = 1) ∨ (X = "java/lang/IllegalArgumentException" ∧ c0 = 2)) p1 M (fun (r : Int32) (_ : pt_M) => c0 = 0 ∧ r = v0)) : Met l yL_wouldFire (Cond.codeWith yL_wouldFire cL_wouldFire 4 (some .int) [(0, 9, 12, 13), (0, 9, 15, 17)] :: lw_all) ({ frames := 8, cells := 2, slots := 12, locals := 162 } : Room) (va_Pc [.ref (ad 0), .int p1, .ref ao] (pw_P D cA ad ao g0 sz M)) (va_Qi (fun (r : Int32) (g1 : Nat → Int64) => r = c0 ∧ (c0 = 0 → g1 0 = v0.toInt64)) (fun (g1 : Nat → Int64) (t : State) => va_P D pt_cl (pw_O cA ao g1) t.heap) (pw_fr ad ao sz)) 2 12 (pw_fr ad ao sz) := by
  refine pw_ofWH (cc := cL_wouldFire) (maxL := 4) (ret := (some .int)) (hh := [(0, 9, 12, 13), (0, 9, 15, 17)]) (by decide) rfl ?_
  intro p e s m args below meth c s₁ B hml hv
  obtain ⟨rfl, ⟨hsz, hP, hK⟩, hZ, hO, hne, hNc⟩ := hv
  have hx := B.exec
  have hb := B.bytes
  have hr := B.returns
  have hts0 := atoms_spec (ws := (Cond.codeWith yL_wouldFire cL_wouldFire 4 (some .int) [(0, 9, 12, 13), (0, 9, 15, 17)] :: lw_all)) B.pre
  have hown : s.vm.findClass RL = some m.cls := findClass_of_methodNamed B.named
  have hlocks := B.notSynchronized
  have htab := vx_table (x := ({ cls := "", name := "", desc := "" } : MethodName)) B (hts0 _ List.mem_cons_self)
  subst hsz
  have F : pt_F p m c cL_wouldFire 4 s _ RL D cA := ⟨⟨hx, hb, hml, hown, fun w h => hts0 w (List.mem_cons_of_mem _ h)⟩, hK⟩
  have hS : va_S (pw_fr ad ao s.heap.size) s.heap s.heap [] := va_S.rf
  have hl := lv_entry ([.ref (ad 0), .int p1, .ref ao]) (n := 4) (Nat.le_of_ble_eq_true rfl)
  rw [lg_entry_eq]
  generalize (lg_sl ([.ref (ad 0), .int p1, .ref ao]) ++ List.replicate (4 - (lg_sl ([.ref (ad 0), .int p1, .ref ao])).length) Slot.unset).toArray = ls at hl ⊢
  have hl : lv_has ls 4 [(0, .ref (ad 0)), (1, .int p1), (2, .ref ao)] := hl
  refine lv_aload_n hx hb dL_wouldFire_0 rfl (lv_at hl 2 rfl) ?_
  refine lv_iconst (v := 0) hx hb dL_wouldFire_1 (by decide) ?_
  refine lv_aload_n hx hb dL_wouldFire_2 rfl (lv_at hl 0 rfl) ?_
  refine lv_iload_n hx hb dL_wouldFire_3 rfl (lv_at hl 1 rfl) ?_
  refine px_calli (px_runV (n := 1) (As := [.int p1]) (rest := [.int 0, .ref ao]) F hP hZ hS (fun q h => Or.inl h) (pt_c7 _ pt_k0) (pt_l7 pt_k0) rfl (mtVX7_wouldFire l hst D cA ad hI _ (fun X : String => (X = "java/lang/IllegalStateException" ∧ c0 = 1) ∨ (X = "java/lang/IllegalArgumentException" ∧ c0 = 2)) p1 M (fun (r : Int32) (_ : pt_M) => c0 = 0 ∧ r = v0) hw) kw_883 kw_880 kw_52 kw_881 kw_882 ⟨by decide, by decide, by decide +kernel⟩ ⟨rfl, rfl, (Nat.le_of_ble_eq_true rfl), (Nat.le_of_ble_eq_true rfl)⟩ rfl hl.1 rfl (Nat.le_of_ble_eq_true rfl) dL_wouldFire_4 ⟨(Nat.le_of_ble_eq_true rfl), (Nat.le_of_ble_eq_true rfl)⟩) hS (fun q h => Or.inl h) (fun X ce q9 H locs hE hS hz ho hce hcv hcl => ?_) (fun r M1 H locs hw hP hS hz ho => ?_)
  · have hO1 := pw_keep hO hne ho
    rcases hE with ⟨rfl, rfl⟩ | ⟨rfl, rfl⟩
    · refine pw_hand (name := "java/lang/IllegalStateException") F htab [] { startPc := 0, endPc := 9, handlerPc := 12, catchType := 13 } [{ startPc := 0, endPc := 9, handlerPc := 15, catchType := 17 }] rfl (fun z hz => absurd hz List.not_mem_nil) (by decide) (by decide) kw_588 kw_597 hce hcv hcl ?_
      refine lv_astore_n (lv' := [(3, .ref q9), (0, .ref (ad 0)), (1, .int p1), (2, .ref ao)]) hx hb dL_wouldFire_12 rfl hl (by decide) rfl (fun ls hl => ?_)
      refine lv_iconst (v := 1) hx hb dL_wouldFire_13 (by decide) ?_
      refine W.widen (k := 2) (n := 12) (Nat.le_of_ble_eq_true rfl) (Nat.le_of_ble_eq_true rfl) ?_
      exact W.iret (v := 1) hx hb hr (fun t ht hW => ⟨⟨1, g0, rfl, ⟨rfl, fun h => absurd h (by decide)⟩, (show va_P D pt_cl (pw_O cA ao _) t.heap from by rw [ht]; exact hO1)⟩, hS.F ht⟩) hS.2.2 dL_wouldFire_14
    · refine pw_hand (name := "java/lang/IllegalArgumentException") F htab [{ startPc := 0, endPc := 9, handlerPc := 12, catchType := 13 }] { startPc := 0, endPc := 9, handlerPc := 15, catchType := 17 } [] rfl (List.forall_mem_cons.mpr ⟨⟨by decide, _, kw_588, hNc.2.1⟩, (fun z hz => absurd hz List.not_mem_nil)⟩) (by decide) (by decide) kw_590 kw_547 hce hcv hcl ?_
      refine lv_astore_n (lv' := [(3, .ref q9), (0, .ref (ad 0)), (1, .int p1), (2, .ref ao)]) hx hb dL_wouldFire_15 rfl hl (by decide) rfl (fun ls hl => ?_)
      refine lv_iconst (v := 2) hx hb dL_wouldFire_16 (by decide) ?_
      refine W.widen (k := 2) (n := 12) (Nat.le_of_ble_eq_true rfl) (Nat.le_of_ble_eq_true rfl) ?_
      exact W.iret (v := 2) hx hb hr (fun t ht hW => ⟨⟨2, g0, rfl, ⟨rfl, fun h => absurd h (by decide)⟩, (show va_P D pt_cl (pw_O cA ao _) t.heap from by rw [ht]; exact hO1)⟩, hS.F ht⟩) hS.2.2 dL_wouldFire_17
  · obtain ⟨ec, ev⟩ := hw
    have hO1 := pw_keep hO hne ho
    refine lv_i2l (v := r.toInt64) hx hb dL_wouldFire_7 rfl ?_
    refine pw_last (x := r.toInt64) F hO1 (Or.inr rfl) hS dL_wouldFire_8 (fun g1 H locs eg hO1 hS => ?_)
    refine lv_goto (tgt := 18) hx hb dL_wouldFire_9 (by decide) ?_
    refine lv_iconst (v := 0) hx hb dL_wouldFire_18 (by decide) ?_
    refine W.widen (k := 2) (n := 12) (Nat.le_of_ble_eq_true rfl) (Nat.le_of_ble_eq_true rfl) ?_
    exact W.iret (v := 0) hx hb hr (fun t ht hW => ⟨⟨0, g1, rfl, ⟨ec.symm, fun _ => by rw [eg, ev]⟩, (show va_P D pt_cl (pw_O cA ao _) t.heap from by rw [ht]; exact hO1)⟩, hS.F ht⟩) hS.2.2 dL_wouldFire_19
-- ===== wouldBe
set_option maxHeartbeats 4000000 in
set_option maxRecDepth 100000 in
theorem mtL_wouldBe (l : Launch) (hst : l.stackTraces = false) (D : va_G) (cA : Nat → ClassId) (ad : Nat → Nat) (hI : pt_I ad) (ao : Nat) (g0 : Nat → Int64) (sz : Nat) (p1 : Int32) (M : pt_M) (c0 v0 : Int32) (hw : wpVX7_wouldBe (fun X : String => (X = "java/lang/IllegalStateException" ∧ c0 = 1) ∨ (X = "java/lang/IllegalArgumentException" ∧ c0 = 2)) p1 M (fun (r : Int32) (_ : pt_M) => c0 = 0 ∧ r = v0)) : Met l yL_wouldBe (Cond.codeWith yL_wouldBe cL_wouldBe 4 (some .int) [(0, 9, 12, 13), (0, 9, 15, 17)] :: lw_all) ({ frames := 8, cells := 2, slots := 12, locals := 162 } : Room) (va_Pc [.ref (ad 0), .int p1, .ref ao] (pw_P D cA ad ao g0 sz M)) (va_Qi (fun (r : Int32) (g1 : Nat → Int64) => r = c0 ∧ (c0 = 0 → g1 0 = v0.toInt64)) (fun (g1 : Nat → Int64) (t : State) => va_P D pt_cl (pw_O cA ao g1) t.heap) (pw_fr ad ao sz)) 2 12 (pw_fr ad ao sz) := by
  refine pw_ofWH (cc := cL_wouldBe) (maxL := 4) (ret := (some .int)) (hh := [(0, 9, 12, 13), (0, 9, 15, 17)]) (by decide) rfl ?_
  intro p e s m args below meth c s₁ B hml hv
  obtain ⟨rfl, ⟨hsz, hP, hK⟩, hZ, hO, hne, hNc⟩ := hv
  have hx := B.exec
  have hb := B.bytes
  have hr := B.returns
  have hts0 := atoms_spec (ws := (Cond.codeWith yL_wouldBe cL_wouldBe 4 (some .int) [(0, 9, 12, 13), (0, 9, 15, 17)] :: lw_all)) B.pre
  have hown : s.vm.findClass RL = some m.cls := findClass_of_methodNamed B.named
  have hlocks := B.notSynchronized
  have htab := vx_table (x := ({ cls := "", name := "", desc := "" } : MethodName)) B (hts0 _ List.mem_cons_self)
  subst hsz
  have F : pt_F p m c cL_wouldBe 4 s _ RL D cA := ⟨⟨hx, hb, hml, hown, fun w h => hts0 w (List.mem_cons_of_mem _ h)⟩, hK⟩
  have hS : va_S (pw_fr ad ao s.heap.size) s.heap s.heap [] := va_S.rf
  have hl := lv_entry ([.ref (ad 0), .int p1, .ref ao]) (n := 4) (Nat.le_of_ble_eq_true rfl)
  rw [lg_entry_eq]
  generalize (lg_sl ([.ref (ad 0), .int p1, .ref ao]) ++ List.replicate (4 - (lg_sl ([.ref (ad 0), .int p1, .ref ao])).length) Slot.unset).toArray = ls at hl ⊢
  have hl : lv_has ls 4 [(0, .ref (ad 0)), (1, .int p1), (2, .ref ao)] := hl
  refine lv_aload_n hx hb dL_wouldBe_0 rfl (lv_at hl 2 rfl) ?_
  refine lv_iconst (v := 0) hx hb dL_wouldBe_1 (by decide) ?_
  refine lv_aload_n hx hb dL_wouldBe_2 rfl (lv_at hl 0 rfl) ?_
  refine lv_iload_n hx hb dL_wouldBe_3 rfl (lv_at hl 1 rfl) ?_
  refine px_calli (px_runV (n := 1) (As := [.int p1]) (rest := [.int 0, .ref ao]) F hP hZ hS (fun q h => Or.inl h) (pt_c7 _ pt_k0) (pt_l7 pt_k0) rfl (mtVX7_wouldBe l hst D cA ad hI _ (fun X : String => (X = "java/lang/IllegalStateException" ∧ c0 = 1) ∨ (X = "java/lang/IllegalArgumentException" ∧ c0 = 2)) p1 M (fun (r : Int32) (_ : pt_M) => c0 = 0 ∧ r = v0) hw) kw_897 kw_894 kw_52 kw_895 kw_896 ⟨by decide, by decide, by decide +kernel⟩ ⟨rfl, rfl, (Nat.le_of_ble_eq_true rfl), (Nat.le_of_ble_eq_true rfl)⟩ rfl hl.1 rfl (Nat.le_of_ble_eq_true rfl) dL_wouldBe_4 ⟨(Nat.le_of_ble_eq_true rfl), (Nat.le_of_ble_eq_true rfl)⟩) hS (fun q h => Or.inl h) (fun X ce q9 H locs hE hS hz ho hce hcv hcl => ?_) (fun r M1 H locs hw hP hS hz ho => ?_)
  · have hO1 := pw_keep hO hne ho
    rcases hE with ⟨rfl, rfl⟩ | ⟨rfl, rfl⟩
    · refine pw_hand (name := "java/lang/IllegalStateException") F htab [] { startPc := 0, endPc := 9, handlerPc := 12, catchType := 13 } [{ startPc := 0, endPc := 9, handlerPc := 15, catchType := 17 }] rfl (fun z hz => absurd hz List.not_mem_nil) (by decide) (by decide) kw_588 kw_597 hce hcv hcl ?_
      refine lv_astore_n (lv' := [(3, .ref q9), (0, .ref (ad 0)), (1, .int p1), (2, .ref ao)]) hx hb dL_wouldBe_12 rfl hl (by decide) rfl (fun ls hl => ?_)
      refine lv_iconst (v := 1) hx hb dL_wouldBe_13 (by decide) ?_
      refine W.widen (k := 2) (n := 12) (Nat.le_of_ble_eq_true rfl) (Nat.le_of_ble_eq_true rfl) ?_
      exact W.iret (v := 1) hx hb hr (fun t ht hW => ⟨⟨1, g0, rfl, ⟨rfl, fun h => absurd h (by decide)⟩, (show va_P D pt_cl (pw_O cA ao _) t.heap from by rw [ht]; exact hO1)⟩, hS.F ht⟩) hS.2.2 dL_wouldBe_14
    · refine pw_hand (name := "java/lang/IllegalArgumentException") F htab [{ startPc := 0, endPc := 9, handlerPc := 12, catchType := 13 }] { startPc := 0, endPc := 9, handlerPc := 15, catchType := 17 } [] rfl (List.forall_mem_cons.mpr ⟨⟨by decide, _, kw_588, hNc.2.1⟩, (fun z hz => absurd hz List.not_mem_nil)⟩) (by decide) (by decide) kw_590 kw_547 hce hcv hcl ?_
      refine lv_astore_n (lv' := [(3, .ref q9), (0, .ref (ad 0)), (1, .int p1), (2, .ref ao)]) hx hb dL_wouldBe_15 rfl hl (by decide) rfl (fun ls hl => ?_)
      refine lv_iconst (v := 2) hx hb dL_wouldBe_16 (by decide) ?_
      refine W.widen (k := 2) (n := 12) (Nat.le_of_ble_eq_true rfl) (Nat.le_of_ble_eq_true rfl) ?_
      exact W.iret (v := 2) hx hb hr (fun t ht hW => ⟨⟨2, g0, rfl, ⟨rfl, fun h => absurd h (by decide)⟩, (show va_P D pt_cl (pw_O cA ao _) t.heap from by rw [ht]; exact hO1)⟩, hS.F ht⟩) hS.2.2 dL_wouldBe_17
  · obtain ⟨ec, ev⟩ := hw
    have hO1 := pw_keep hO hne ho
    refine lv_i2l (v := r.toInt64) hx hb dL_wouldBe_7 rfl ?_
    refine pw_last (x := r.toInt64) F hO1 (Or.inr rfl) hS dL_wouldBe_8 (fun g1 H locs eg hO1 hS => ?_)
    refine lv_goto (tgt := 18) hx hb dL_wouldBe_9 (by decide) ?_
    refine lv_iconst (v := 0) hx hb dL_wouldBe_18 (by decide) ?_
    refine W.widen (k := 2) (n := 12) (Nat.le_of_ble_eq_true rfl) (Nat.le_of_ble_eq_true rfl) ?_
    exact W.iret (v := 0) hx hb hr (fun t ht hW => ⟨⟨0, g1, rfl, ⟨ec.symm, fun _ => by rw [eg, ev]⟩, (show va_P D pt_cl (pw_O cA ao _) t.heap from by rw [ht]; exact hO1)⟩, hS.F ht⟩) hS.2.2 dL_wouldBe_19
-- ===== open
set_option maxHeartbeats 4000000 in
set_option maxRecDepth 100000 in
theorem mtL_open (l : Launch) (hst : l.stackTraces = false) (D : va_G) (cA : Nat → ClassId) (ad : Nat → Nat) (hI : pt_I ad) (ao : Nat) (g0 : Nat → Int64) (sz : Nat) (M : pt_M) (c0 v0 : Int32) (hw : wpVX7_open (fun X : String => (X = "java/lang/IllegalStateException" ∧ c0 = 1)) M (fun (r : Int32) (_ : pt_M) => c0 = 0 ∧ r = v0)) : Met l yL_open (Cond.codeWith yL_open cL_open 3 (some .int) [(0, 8, 11, 13)] :: lw_all) ({ frames := 8, cells := 1, slots := 6, locals := 123 } : Room) (va_Pc [.ref (ad 0), .ref ao] (pw_P D cA ad ao g0 sz M)) (va_Qi (fun (r : Int32) (g1 : Nat → Int64) => r = c0 ∧ (c0 = 0 → g1 0 = v0.toInt64)) (fun (g1 : Nat → Int64) (t : State) => va_P D pt_cl (pw_O cA ao g1) t.heap) (pw_fr ad ao sz)) 1 6 (pw_fr ad ao sz) := by
  refine pw_ofWH (cc := cL_open) (maxL := 3) (ret := (some .int)) (hh := [(0, 8, 11, 13)]) (by decide) rfl ?_
  intro p e s m args below meth c s₁ B hml hv
  obtain ⟨rfl, ⟨hsz, hP, hK⟩, hZ, hO, hne, hNc⟩ := hv
  have hx := B.exec
  have hb := B.bytes
  have hr := B.returns
  have hts0 := atoms_spec (ws := (Cond.codeWith yL_open cL_open 3 (some .int) [(0, 8, 11, 13)] :: lw_all)) B.pre
  have hown : s.vm.findClass RL = some m.cls := findClass_of_methodNamed B.named
  have hlocks := B.notSynchronized
  have htab := vx_table (x := ({ cls := "", name := "", desc := "" } : MethodName)) B (hts0 _ List.mem_cons_self)
  subst hsz
  have F : pt_F p m c cL_open 3 s _ RL D cA := ⟨⟨hx, hb, hml, hown, fun w h => hts0 w (List.mem_cons_of_mem _ h)⟩, hK⟩
  have hS : va_S (pw_fr ad ao s.heap.size) s.heap s.heap [] := va_S.rf
  have hl := lv_entry ([.ref (ad 0), .ref ao]) (n := 3) (Nat.le_of_ble_eq_true rfl)
  rw [lg_entry_eq]
  generalize (lg_sl ([.ref (ad 0), .ref ao]) ++ List.replicate (3 - (lg_sl ([.ref (ad 0), .ref ao])).length) Slot.unset).toArray = ls at hl ⊢
  have hl : lv_has ls 3 [(0, .ref (ad 0)), (1, .ref ao)] := hl
  refine lv_aload_n hx hb dL_open_0 rfl (lv_at hl 1 rfl) ?_
  refine lv_iconst (v := 0) hx hb dL_open_1 (by decide) ?_
  refine lv_aload_n hx hb dL_open_2 rfl (lv_at hl 0 rfl) ?_
  refine px_calli (px_runV (n := 0) (As := []) (rest := [.int 0, .ref ao]) F hP hZ hS (fun q h => Or.inl h) (pt_c7 _ pt_k0) (pt_l7 pt_k0) rfl (mtVX7_open l hst D cA ad hI _ (fun X : String => (X = "java/lang/IllegalStateException" ∧ c0 = 1)) M (fun (r : Int32) (_ : pt_M) => c0 = 0 ∧ r = v0) hw) kw_904 kw_901 kw_52 kw_902 kw_903 ⟨by decide, by decide, by decide +kernel⟩ ⟨rfl, rfl, (Nat.le_of_ble_eq_true rfl), (Nat.le_of_ble_eq_true rfl)⟩ rfl hl.1 rfl (Nat.le_of_ble_eq_true rfl) dL_open_3 ⟨(Nat.le_of_ble_eq_true rfl), (Nat.le_of_ble_eq_true rfl)⟩) hS (fun q h => Or.inl h) (fun X ce q9 H locs hE hS hz ho hce hcv hcl => ?_) (fun r M1 H locs hw hP hS hz ho => ?_)
  · have hO1 := pw_keep hO hne ho
    obtain ⟨rfl, rfl⟩ := hE
    refine pw_hand (name := "java/lang/IllegalStateException") F htab [] { startPc := 0, endPc := 8, handlerPc := 11, catchType := 13 } [] rfl (fun z hz => absurd hz List.not_mem_nil) (by decide) (by decide) kw_588 kw_597 hce hcv hcl ?_
    refine lv_astore_n (lv' := [(2, .ref q9), (0, .ref (ad 0)), (1, .ref ao)]) hx hb dL_open_11 rfl hl (by decide) rfl (fun ls hl => ?_)
    refine lv_iconst (v := 1) hx hb dL_open_12 (by decide) ?_
    refine W.widen (k := 1) (n := 6) (Nat.le_of_ble_eq_true rfl) (Nat.le_of_ble_eq_true rfl) ?_
    exact W.iret (v := 1) hx hb hr (fun t ht hW => ⟨⟨1, g0, rfl, ⟨rfl, fun h => absurd h (by decide)⟩, (show va_P D pt_cl (pw_O cA ao _) t.heap from by rw [ht]; exact hO1)⟩, hS.F ht⟩) hS.2.2 dL_open_13
  · obtain ⟨ec, ev⟩ := hw
    have hO1 := pw_keep hO hne ho
    refine lv_i2l (v := r.toInt64) hx hb dL_open_6 rfl ?_
    refine pw_last (x := r.toInt64) F hO1 (Or.inr rfl) hS dL_open_7 (fun g1 H locs eg hO1 hS => ?_)
    refine lv_goto (tgt := 14) hx hb dL_open_8 (by decide) ?_
    refine lv_iconst (v := 0) hx hb dL_open_14 (by decide) ?_
    refine W.widen (k := 1) (n := 6) (Nat.le_of_ble_eq_true rfl) (Nat.le_of_ble_eq_true rfl) ?_
    exact W.iret (v := 0) hx hb hr (fun t ht hW => ⟨⟨0, g1, rfl, ⟨ec.symm, fun _ => by rw [eg, ev]⟩, (show va_P D pt_cl (pw_O cA ao _) t.heap from by rw [ht]; exact hO1)⟩, hS.F ht⟩) hS.2.2 dL_open_15
-- ===== rowTo
set_option maxHeartbeats 4000000 in
set_option maxRecDepth 100000 in
theorem mtL_rowTo (l : Launch) (hst : l.stackTraces = false) (D : va_G) (cA : Nat → ClassId) (ad : Nat → Nat) (hI : pt_I ad) (ao : Nat) (g0 : Nat → Int64) (sz : Nat) (p1 : Int32) (p2 : Int32) (M : pt_M) (c0 v0 : Int32) (hw : wpVX7_rowTo (fun X : String => (X = "java/lang/IllegalStateException" ∧ c0 = 1) ∨ (X = "java/lang/IndexOutOfBoundsException" ∧ c0 = 2) ∨ (X = "java/lang/IllegalArgumentException" ∧ c0 = 3)) p1 p2 M (fun (r : Int32) (_ : pt_M) => c0 = 0 ∧ r = v0)) : Met l yL_rowTo (Cond.codeWith yL_rowTo cL_rowTo 5 (some .int) [(0, 10, 13, 13), (0, 10, 17, 15), (0, 10, 21, 17)] :: lw_all) ({ frames := 8, cells := 3, slots := 18, locals := 189 } : Room) (va_Pc [.ref (ad 0), .int p1, .int p2, .ref ao] (pw_P D cA ad ao g0 sz M)) (va_Qi (fun (r : Int32) (g1 : Nat → Int64) => r = c0 ∧ (c0 = 0 → g1 0 = v0.toInt64)) (fun (g1 : Nat → Int64) (t : State) => va_P D pt_cl (pw_O cA ao g1) t.heap) (pw_fr ad ao sz)) 3 18 (pw_fr ad ao sz) := by
  refine pw_ofWH (cc := cL_rowTo) (maxL := 5) (ret := (some .int)) (hh := [(0, 10, 13, 13), (0, 10, 17, 15), (0, 10, 21, 17)]) (by decide) rfl ?_
  intro p e s m args below meth c s₁ B hml hv
  obtain ⟨rfl, ⟨hsz, hP, hK⟩, hZ, hO, hne, hNc⟩ := hv
  have hx := B.exec
  have hb := B.bytes
  have hr := B.returns
  have hts0 := atoms_spec (ws := (Cond.codeWith yL_rowTo cL_rowTo 5 (some .int) [(0, 10, 13, 13), (0, 10, 17, 15), (0, 10, 21, 17)] :: lw_all)) B.pre
  have hown : s.vm.findClass RL = some m.cls := findClass_of_methodNamed B.named
  have hlocks := B.notSynchronized
  have htab := vx_table (x := ({ cls := "", name := "", desc := "" } : MethodName)) B (hts0 _ List.mem_cons_self)
  subst hsz
  have F : pt_F p m c cL_rowTo 5 s _ RL D cA := ⟨⟨hx, hb, hml, hown, fun w h => hts0 w (List.mem_cons_of_mem _ h)⟩, hK⟩
  have hS : va_S (pw_fr ad ao s.heap.size) s.heap s.heap [] := va_S.rf
  have hl := lv_entry ([.ref (ad 0), .int p1, .int p2, .ref ao]) (n := 5) (Nat.le_of_ble_eq_true rfl)
  rw [lg_entry_eq]
  generalize (lg_sl ([.ref (ad 0), .int p1, .int p2, .ref ao]) ++ List.replicate (5 - (lg_sl ([.ref (ad 0), .int p1, .int p2, .ref ao])).length) Slot.unset).toArray = ls at hl ⊢
  have hl : lv_has ls 5 [(0, .ref (ad 0)), (1, .int p1), (2, .int p2), (3, .ref ao)] := hl
  refine lv_aload_n hx hb dL_rowTo_0 rfl (lv_at hl 3 rfl) ?_
  refine lv_iconst (v := 0) hx hb dL_rowTo_1 (by decide) ?_
  refine lv_aload_n hx hb dL_rowTo_2 rfl (lv_at hl 0 rfl) ?_
  refine lv_iload_n hx hb dL_rowTo_3 rfl (lv_at hl 1 rfl) ?_
  refine lv_iload_n hx hb dL_rowTo_4 rfl (lv_at hl 2 rfl) ?_
  refine px_calli (px_runV (n := 2) (As := [.int p1, .int p2]) (rest := [.int 0, .ref ao]) F hP hZ hS (fun q h => Or.inl h) (pt_c7 _ pt_k0) (pt_l7 pt_k0) rfl (mtVX7_rowTo l hst D cA ad hI _ (fun X : String => (X = "java/lang/IllegalStateException" ∧ c0 = 1) ∨ (X = "java/lang/IndexOutOfBoundsException" ∧ c0 = 2) ∨ (X = "java/lang/IllegalArgumentException" ∧ c0 = 3)) p1 p2 M (fun (r : Int32) (_ : pt_M) => c0 = 0 ∧ r = v0) hw) kw_912 kw_909 kw_52 kw_910 kw_911 ⟨by decide, by decide, by decide +kernel⟩ ⟨rfl, rfl, (Nat.le_of_ble_eq_true rfl), (Nat.le_of_ble_eq_true rfl)⟩ rfl hl.1 rfl (Nat.le_of_ble_eq_true rfl) dL_rowTo_5 ⟨(Nat.le_of_ble_eq_true rfl), (Nat.le_of_ble_eq_true rfl)⟩) hS (fun q h => Or.inl h) (fun X ce q9 H locs hE hS hz ho hce hcv hcl => ?_) (fun r M1 H locs hw hP hS hz ho => ?_)
  · have hO1 := pw_keep hO hne ho
    rcases hE with ⟨rfl, rfl⟩ | ⟨rfl, rfl⟩ | ⟨rfl, rfl⟩
    · refine pw_hand (name := "java/lang/IllegalStateException") F htab [] { startPc := 0, endPc := 10, handlerPc := 13, catchType := 13 } [{ startPc := 0, endPc := 10, handlerPc := 17, catchType := 15 }, { startPc := 0, endPc := 10, handlerPc := 21, catchType := 17 }] rfl (fun z hz => absurd hz List.not_mem_nil) (by decide) (by decide) kw_588 kw_597 hce hcv hcl ?_
      refine lv_astore (lv' := [(4, .ref q9), (0, .ref (ad 0)), (1, .int p1), (2, .int p2), (3, .ref ao)]) hx hb dL_rowTo_13 hl (by decide) rfl (fun ls hl => ?_)
      refine lv_iconst (v := 1) hx hb dL_rowTo_15 (by decide) ?_
      refine W.widen (k := 3) (n := 18) (Nat.le_of_ble_eq_true rfl) (Nat.le_of_ble_eq_true rfl) ?_
      exact W.iret (v := 1) hx hb hr (fun t ht hW => ⟨⟨1, g0, rfl, ⟨rfl, fun h => absurd h (by decide)⟩, (show va_P D pt_cl (pw_O cA ao _) t.heap from by rw [ht]; exact hO1)⟩, hS.F ht⟩) hS.2.2 dL_rowTo_16
    · refine pw_hand (name := "java/lang/IndexOutOfBoundsException") F htab [{ startPc := 0, endPc := 10, handlerPc := 13, catchType := 13 }] { startPc := 0, endPc := 10, handlerPc := 17, catchType := 15 } [{ startPc := 0, endPc := 10, handlerPc := 21, catchType := 17 }] rfl (List.forall_mem_cons.mpr ⟨⟨by decide, _, kw_588, hNc.1⟩, (fun z hz => absurd hz List.not_mem_nil)⟩) (by decide) (by decide) kw_589 kw_484 hce hcv hcl ?_
      refine lv_astore (lv' := [(4, .ref q9), (0, .ref (ad 0)), (1, .int p1), (2, .int p2), (3, .ref ao)]) hx hb dL_rowTo_17 hl (by decide) rfl (fun ls hl => ?_)
      refine lv_iconst (v := 2) hx hb dL_rowTo_19 (by decide) ?_
      refine W.widen (k := 3) (n := 18) (Nat.le_of_ble_eq_true rfl) (Nat.le_of_ble_eq_true rfl) ?_
      exact W.iret (v := 2) hx hb hr (fun t ht hW => ⟨⟨2, g0, rfl, ⟨rfl, fun h => absurd h (by decide)⟩, (show va_P D pt_cl (pw_O cA ao _) t.heap from by rw [ht]; exact hO1)⟩, hS.F ht⟩) hS.2.2 dL_rowTo_20
    · refine pw_hand (name := "java/lang/IllegalArgumentException") F htab [{ startPc := 0, endPc := 10, handlerPc := 13, catchType := 13 }, { startPc := 0, endPc := 10, handlerPc := 17, catchType := 15 }] { startPc := 0, endPc := 10, handlerPc := 21, catchType := 17 } [] rfl (List.forall_mem_cons.mpr ⟨⟨by decide, _, kw_588, hNc.2.1⟩, (List.forall_mem_cons.mpr ⟨⟨by decide, _, kw_589, hNc.2.2⟩, (fun z hz => absurd hz List.not_mem_nil)⟩)⟩) (by decide) (by decide) kw_590 kw_547 hce hcv hcl ?_
      refine lv_astore (lv' := [(4, .ref q9), (0, .ref (ad 0)), (1, .int p1), (2, .int p2), (3, .ref ao)]) hx hb dL_rowTo_21 hl (by decide) rfl (fun ls hl => ?_)
      refine lv_iconst (v := 3) hx hb dL_rowTo_23 (by decide) ?_
      refine W.widen (k := 3) (n := 18) (Nat.le_of_ble_eq_true rfl) (Nat.le_of_ble_eq_true rfl) ?_
      exact W.iret (v := 3) hx hb hr (fun t ht hW => ⟨⟨3, g0, rfl, ⟨rfl, fun h => absurd h (by decide)⟩, (show va_P D pt_cl (pw_O cA ao _) t.heap from by rw [ht]; exact hO1)⟩, hS.F ht⟩) hS.2.2 dL_rowTo_24
  · obtain ⟨ec, ev⟩ := hw
    have hO1 := pw_keep hO hne ho
    refine lv_i2l (v := r.toInt64) hx hb dL_rowTo_8 rfl ?_
    refine pw_last (x := r.toInt64) F hO1 (Or.inr rfl) hS dL_rowTo_9 (fun g1 H locs eg hO1 hS => ?_)
    refine lv_goto (tgt := 25) hx hb dL_rowTo_10 (by decide) ?_
    refine lv_iconst (v := 0) hx hb dL_rowTo_25 (by decide) ?_
    refine W.widen (k := 3) (n := 18) (Nat.le_of_ble_eq_true rfl) (Nat.le_of_ble_eq_true rfl) ?_
    exact W.iret (v := 0) hx hb hr (fun t ht hW => ⟨⟨0, g1, rfl, ⟨ec.symm, fun _ => by rw [eg, ev]⟩, (show va_P D pt_cl (pw_O cA ao _) t.heap from by rw [ht]; exact hO1)⟩, hS.F ht⟩) hS.2.2 dL_rowTo_26
-- ===== rowFor
set_option maxHeartbeats 4000000 in
set_option maxRecDepth 100000 in
theorem mtL_rowFor (l : Launch) (hst : l.stackTraces = false) (D : va_G) (cA : Nat → ClassId) (ad : Nat → Nat) (hI : pt_I ad) (ao : Nat) (g0 : Nat → Int64) (sz : Nat) (p1 : Int32) (p2 : Int32) (M : pt_M) (c0 v0 : Int32) (hw : wpVX7_rowFor (fun X : String => (X = "java/lang/IllegalStateException" ∧ c0 = 1) ∨ (X = "java/lang/IndexOutOfBoundsException" ∧ c0 = 2) ∨ (X = "java/lang/IllegalArgumentException" ∧ c0 = 3)) p1 p2 M (fun (r : Int32) (_ : pt_M) => c0 = 0 ∧ r = v0)) : Met l yL_rowFor (Cond.codeWith yL_rowFor cL_rowFor 5 (some .int) [(0, 10, 13, 13), (0, 10, 17, 15), (0, 10, 21, 17)] :: lw_all) ({ frames := 8, cells := 3, slots := 18, locals := 189 } : Room) (va_Pc [.ref (ad 0), .int p1, .int p2, .ref ao] (pw_P D cA ad ao g0 sz M)) (va_Qi (fun (r : Int32) (g1 : Nat → Int64) => r = c0 ∧ (c0 = 0 → g1 0 = v0.toInt64)) (fun (g1 : Nat → Int64) (t : State) => va_P D pt_cl (pw_O cA ao g1) t.heap) (pw_fr ad ao sz)) 3 18 (pw_fr ad ao sz) := by
  refine pw_ofWH (cc := cL_rowFor) (maxL := 5) (ret := (some .int)) (hh := [(0, 10, 13, 13), (0, 10, 17, 15), (0, 10, 21, 17)]) (by decide) rfl ?_
  intro p e s m args below meth c s₁ B hml hv
  obtain ⟨rfl, ⟨hsz, hP, hK⟩, hZ, hO, hne, hNc⟩ := hv
  have hx := B.exec
  have hb := B.bytes
  have hr := B.returns
  have hts0 := atoms_spec (ws := (Cond.codeWith yL_rowFor cL_rowFor 5 (some .int) [(0, 10, 13, 13), (0, 10, 17, 15), (0, 10, 21, 17)] :: lw_all)) B.pre
  have hown : s.vm.findClass RL = some m.cls := findClass_of_methodNamed B.named
  have hlocks := B.notSynchronized
  have htab := vx_table (x := ({ cls := "", name := "", desc := "" } : MethodName)) B (hts0 _ List.mem_cons_self)
  subst hsz
  have F : pt_F p m c cL_rowFor 5 s _ RL D cA := ⟨⟨hx, hb, hml, hown, fun w h => hts0 w (List.mem_cons_of_mem _ h)⟩, hK⟩
  have hS : va_S (pw_fr ad ao s.heap.size) s.heap s.heap [] := va_S.rf
  have hl := lv_entry ([.ref (ad 0), .int p1, .int p2, .ref ao]) (n := 5) (Nat.le_of_ble_eq_true rfl)
  rw [lg_entry_eq]
  generalize (lg_sl ([.ref (ad 0), .int p1, .int p2, .ref ao]) ++ List.replicate (5 - (lg_sl ([.ref (ad 0), .int p1, .int p2, .ref ao])).length) Slot.unset).toArray = ls at hl ⊢
  have hl : lv_has ls 5 [(0, .ref (ad 0)), (1, .int p1), (2, .int p2), (3, .ref ao)] := hl
  refine lv_aload_n hx hb dL_rowFor_0 rfl (lv_at hl 3 rfl) ?_
  refine lv_iconst (v := 0) hx hb dL_rowFor_1 (by decide) ?_
  refine lv_aload_n hx hb dL_rowFor_2 rfl (lv_at hl 0 rfl) ?_
  refine lv_iload_n hx hb dL_rowFor_3 rfl (lv_at hl 1 rfl) ?_
  refine lv_iload_n hx hb dL_rowFor_4 rfl (lv_at hl 2 rfl) ?_
  refine px_calli (px_runV (n := 2) (As := [.int p1, .int p2]) (rest := [.int 0, .ref ao]) F hP hZ hS (fun q h => Or.inl h) (pt_c7 _ pt_k0) (pt_l7 pt_k0) rfl (mtVX7_rowFor l hst D cA ad hI _ (fun X : String => (X = "java/lang/IllegalStateException" ∧ c0 = 1) ∨ (X = "java/lang/IndexOutOfBoundsException" ∧ c0 = 2) ∨ (X = "java/lang/IllegalArgumentException" ∧ c0 = 3)) p1 p2 M (fun (r : Int32) (_ : pt_M) => c0 = 0 ∧ r = v0) hw) kw_945 kw_942 kw_52 kw_943 kw_944 ⟨by decide, by decide, by decide +kernel⟩ ⟨rfl, rfl, (Nat.le_of_ble_eq_true rfl), (Nat.le_of_ble_eq_true rfl)⟩ rfl hl.1 rfl (Nat.le_of_ble_eq_true rfl) dL_rowFor_5 ⟨(Nat.le_of_ble_eq_true rfl), (Nat.le_of_ble_eq_true rfl)⟩) hS (fun q h => Or.inl h) (fun X ce q9 H locs hE hS hz ho hce hcv hcl => ?_) (fun r M1 H locs hw hP hS hz ho => ?_)
  · have hO1 := pw_keep hO hne ho
    rcases hE with ⟨rfl, rfl⟩ | ⟨rfl, rfl⟩ | ⟨rfl, rfl⟩
    · refine pw_hand (name := "java/lang/IllegalStateException") F htab [] { startPc := 0, endPc := 10, handlerPc := 13, catchType := 13 } [{ startPc := 0, endPc := 10, handlerPc := 17, catchType := 15 }, { startPc := 0, endPc := 10, handlerPc := 21, catchType := 17 }] rfl (fun z hz => absurd hz List.not_mem_nil) (by decide) (by decide) kw_588 kw_597 hce hcv hcl ?_
      refine lv_astore (lv' := [(4, .ref q9), (0, .ref (ad 0)), (1, .int p1), (2, .int p2), (3, .ref ao)]) hx hb dL_rowFor_13 hl (by decide) rfl (fun ls hl => ?_)
      refine lv_iconst (v := 1) hx hb dL_rowFor_15 (by decide) ?_
      refine W.widen (k := 3) (n := 18) (Nat.le_of_ble_eq_true rfl) (Nat.le_of_ble_eq_true rfl) ?_
      exact W.iret (v := 1) hx hb hr (fun t ht hW => ⟨⟨1, g0, rfl, ⟨rfl, fun h => absurd h (by decide)⟩, (show va_P D pt_cl (pw_O cA ao _) t.heap from by rw [ht]; exact hO1)⟩, hS.F ht⟩) hS.2.2 dL_rowFor_16
    · refine pw_hand (name := "java/lang/IndexOutOfBoundsException") F htab [{ startPc := 0, endPc := 10, handlerPc := 13, catchType := 13 }] { startPc := 0, endPc := 10, handlerPc := 17, catchType := 15 } [{ startPc := 0, endPc := 10, handlerPc := 21, catchType := 17 }] rfl (List.forall_mem_cons.mpr ⟨⟨by decide, _, kw_588, hNc.1⟩, (fun z hz => absurd hz List.not_mem_nil)⟩) (by decide) (by decide) kw_589 kw_484 hce hcv hcl ?_
      refine lv_astore (lv' := [(4, .ref q9), (0, .ref (ad 0)), (1, .int p1), (2, .int p2), (3, .ref ao)]) hx hb dL_rowFor_17 hl (by decide) rfl (fun ls hl => ?_)
      refine lv_iconst (v := 2) hx hb dL_rowFor_19 (by decide) ?_
      refine W.widen (k := 3) (n := 18) (Nat.le_of_ble_eq_true rfl) (Nat.le_of_ble_eq_true rfl) ?_
      exact W.iret (v := 2) hx hb hr (fun t ht hW => ⟨⟨2, g0, rfl, ⟨rfl, fun h => absurd h (by decide)⟩, (show va_P D pt_cl (pw_O cA ao _) t.heap from by rw [ht]; exact hO1)⟩, hS.F ht⟩) hS.2.2 dL_rowFor_20
    · refine pw_hand (name := "java/lang/IllegalArgumentException") F htab [{ startPc := 0, endPc := 10, handlerPc := 13, catchType := 13 }, { startPc := 0, endPc := 10, handlerPc := 17, catchType := 15 }] { startPc := 0, endPc := 10, handlerPc := 21, catchType := 17 } [] rfl (List.forall_mem_cons.mpr ⟨⟨by decide, _, kw_588, hNc.2.1⟩, (List.forall_mem_cons.mpr ⟨⟨by decide, _, kw_589, hNc.2.2⟩, (fun z hz => absurd hz List.not_mem_nil)⟩)⟩) (by decide) (by decide) kw_590 kw_547 hce hcv hcl ?_
      refine lv_astore (lv' := [(4, .ref q9), (0, .ref (ad 0)), (1, .int p1), (2, .int p2), (3, .ref ao)]) hx hb dL_rowFor_21 hl (by decide) rfl (fun ls hl => ?_)
      refine lv_iconst (v := 3) hx hb dL_rowFor_23 (by decide) ?_
      refine W.widen (k := 3) (n := 18) (Nat.le_of_ble_eq_true rfl) (Nat.le_of_ble_eq_true rfl) ?_
      exact W.iret (v := 3) hx hb hr (fun t ht hW => ⟨⟨3, g0, rfl, ⟨rfl, fun h => absurd h (by decide)⟩, (show va_P D pt_cl (pw_O cA ao _) t.heap from by rw [ht]; exact hO1)⟩, hS.F ht⟩) hS.2.2 dL_rowFor_24
  · obtain ⟨ec, ev⟩ := hw
    have hO1 := pw_keep hO hne ho
    refine lv_i2l (v := r.toInt64) hx hb dL_rowFor_8 rfl ?_
    refine pw_last (x := r.toInt64) F hO1 (Or.inr rfl) hS dL_rowFor_9 (fun g1 H locs eg hO1 hS => ?_)
    refine lv_goto (tgt := 25) hx hb dL_rowFor_10 (by decide) ?_
    refine lv_iconst (v := 0) hx hb dL_rowFor_25 (by decide) ?_
    refine W.widen (k := 3) (n := 18) (Nat.le_of_ble_eq_true rfl) (Nat.le_of_ble_eq_true rfl) ?_
    exact W.iret (v := 0) hx hb hr (fun t ht hW => ⟨⟨0, g1, rfl, ⟨ec.symm, fun _ => by rw [eg, ev]⟩, (show va_P D pt_cl (pw_O cA ao _) t.heap from by rw [ht]; exact hO1)⟩, hS.F ht⟩) hS.2.2 dL_rowFor_26
