-- ===== X7_wouldFire
def wpX7_wouldFire (p1 : Int32) (M : pt_M) (Q : Int32 → pt_M → Prop) : Prop :=
  wpX7_checkRunning M (fun (M_1 : pt_M) => wpX7_checkEvent p1 M_1 (fun (M_5 : pt_M) => wpX4_copyFrom (133 + 1) (125 + 1) M_5 (fun (M_22 : pt_M) => wpX3_proceed 133 p1 M_22 (fun (r_30 : Int32) (M_30 : pt_M) => Q r_30 M_30))))
set_option maxHeartbeats 4000000 in
set_option maxRecDepth 100000 in
theorem mtX7_wouldFire (l : Launch) (D : va_G) (cA : Nat → ClassId) (ad : Nat → Nat) (hI : pt_I ad) (sz : Nat) (p1 : Int32) (M : pt_M) (Q : Int32 → pt_M → Prop) (hw : wpX7_wouldFire p1 M Q) : Met l yX7_wouldFire (Cond.code yX7_wouldFire cX7_wouldFire 2 (some .int) :: lw_all) ({ frames := 6, cells := 0, slots := 0, locals := 141 } : Room) (va_Pc [.ref (ad 0), .int p1] (pt_P D cA ad sz M)) (va_Qi Q (pt_B D cA ad) (pt_fr ad sz)) 0 0 (pt_fr ad sz) := by
  refine Met.ofW (cc := cX7_wouldFire) (maxL := 2) (ret := (some .int)) (by decide) rfl ?_
  intro p e s m args below meth c s₁ B hml hv
  obtain ⟨rfl, hsz, hP, hK⟩ := hv
  have hx := B.exec
  have hb := B.bytes
  have hr := B.returns
  have hts0 := atoms_spec (ws := (Cond.code yX7_wouldFire cX7_wouldFire 2 (some .int) :: lw_all)) B.pre
  have hown : s.vm.findClass RX7 = some m.cls := findClass_of_methodNamed B.named
  have hlocks := B.notSynchronized
  subst hsz
  have F : pt_F p m c cX7_wouldFire 2 s _ RX7 D cA := ⟨⟨hx, hb, hml, hown, fun w h => hts0 w (List.mem_cons_of_mem _ h)⟩, hK⟩
  have hD : ∀ M, va_D (pt_fr ad s.heap.size) (pt_W cA ad M) := pt_D hI (fun k h => Or.inl ⟨k, h, rfl⟩)
  have hS : va_S (pt_fr ad s.heap.size) s.heap s.heap [] := va_S.rf
  have hl := lv_entry ([.ref (ad 0), .int p1]) (n := 2) (Nat.le_of_ble_eq_true rfl)
  rw [lg_entry_eq]
  generalize (lg_sl ([.ref (ad 0), .int p1]) ++ List.replicate (2 - (lg_sl ([.ref (ad 0), .int p1])).length) Slot.unset).toArray = ls at hl ⊢
  have hl : lv_has ls 2 [(0, .ref (ad 0)), (1, .int p1)] := hl
  unfold wpX7_wouldFire at hw
  refine lv_aload_n hx hb dX7_wouldFire_0 rfl (lv_at hl 0 rfl) ?_
  refine pt_callv (pt_runV (n := 0) (As := []) (rest := []) F hP (pt_c7 _ pt_k0) (pt_l7 pt_k0) rfl (mtX7_checkRunning l D cA ad hI _ M _ hw) kw_559 kw_556 kw_26 kw_558 kw_17 ⟨by decide, by decide, by decide +kernel⟩ ⟨rfl, rfl, Nat.le_of_ble_eq_true rfl, Nat.le_of_ble_eq_true rfl⟩ rfl hl.1 rfl (Nat.le_of_ble_eq_true rfl) dX7_wouldFire_1 ⟨Nat.zero_le _, Nat.zero_le _⟩) hS (fun _ h => h) (fun M_1 H locs hw hP hS _ _ => ?_)
  refine lv_iload_n hx hb dX7_wouldFire_4 rfl (lv_at hl 1 rfl) ?_
  refine pt_callv (pt_runS (n := 1) (As := [.int p1]) (rest := []) F hP (mtX7_checkEvent l D cA ad hI _ p1 M_1 _ hw) kw_562 kw_560 kw_26 kw_561 ⟨by decide, by decide, by decide +kernel⟩ ⟨rfl, rfl, Nat.le_of_ble_eq_true rfl, Nat.le_of_ble_eq_true rfl⟩ rfl hl.1 rfl (Nat.le_of_ble_eq_true rfl) dX7_wouldFire_5 ⟨Nat.zero_le _, Nat.zero_le _⟩) hS (fun _ h => h) (fun M_5 H locs hw hP hS _ _ => ?_)
  refine lv_aload_n hx hb dX7_wouldFire_8 rfl (lv_at hl 0 rfl) ?_
  refine pt_get F hP (pt_c7 _ pt_k0) (pt_l7 pt_k0) inX7 rfl 2 (by decide) kw_332 rfl rfl dX7_wouldFire_9 ?_
  refine pt_get F hP (pt_c3 _ pt_k133) (pt_l3 pt_k133) inX3 rfl 1 (by decide) kw_252 rfl rfl dX7_wouldFire_12 ?_
  refine lv_aload_n hx hb dX7_wouldFire_15 rfl (lv_at hl 0 rfl) ?_
  refine pt_get F hP (pt_c7 _ pt_k0) (pt_l7 pt_k0) inX7 rfl 1 (by decide) kw_331 rfl rfl dX7_wouldFire_16 ?_
  refine pt_get F hP (pt_c3 _ pt_k125) (pt_l3 pt_k125) inX3 rfl 1 (by decide) kw_252 rfl rfl dX7_wouldFire_19 ?_
  refine pt_callv (pt_runV (n := 1) (As := [.ref (ad (125 + 1))]) (rest := []) F hP (pt_c4 _ (pt_3s pt_k133)) (pt_l4 (pt_3s pt_k133)) rfl (mtX4_copyFrom l D cA ad hI _ (133 + 1) (pt_3s pt_k133) (125 + 1) (pt_3s pt_k125) M_5 _ hw) kw_650 kw_647 kw_32 kw_648 kw_649 ⟨by decide, by decide, by decide +kernel⟩ ⟨rfl, rfl, Nat.le_of_ble_eq_true rfl, Nat.le_of_ble_eq_true rfl⟩ rfl hl.1 rfl (Nat.le_of_ble_eq_true rfl) dX7_wouldFire_22 ⟨Nat.zero_le _, Nat.zero_le _⟩) hS (fun _ h => h) (fun M_22 H locs hw hP hS _ _ => ?_)
  refine lv_aload_n hx hb dX7_wouldFire_25 rfl (lv_at hl 0 rfl) ?_
  refine pt_get F hP (pt_c7 _ pt_k0) (pt_l7 pt_k0) inX7 rfl 2 (by decide) kw_332 rfl rfl dX7_wouldFire_26 ?_
  refine lv_iload_n hx hb dX7_wouldFire_29 rfl (lv_at hl 1 rfl) ?_
  refine pt_calli (pt_runV (n := 1) (As := [.int p1]) (rest := []) F hP (pt_c3 _ pt_k133) (pt_l3 pt_k133) rfl (mtX3_proceed l D cA ad hI _ 133 pt_k133 p1 M_22 _ hw) kw_464 kw_461 kw_31 kw_462 kw_463 ⟨by decide, by decide, by decide +kernel⟩ ⟨rfl, rfl, Nat.le_of_ble_eq_true rfl, Nat.le_of_ble_eq_true rfl⟩ rfl hl.1 rfl (Nat.le_of_ble_eq_true rfl) dX7_wouldFire_30 ⟨Nat.zero_le _, Nat.zero_le _⟩) hS (fun _ h => h) (fun r_30 M_30 H locs hw hP hS _ _ => ?_)
  exact W.iret (v := r_30) hx hb hr (fun t ht hW => ⟨⟨r_30, M_30, rfl, hw, by unfold pt_B; rw [ht]; exact hP⟩, hS.F ht⟩) hS.2.2 dX7_wouldFire_33
-- ===== X7_wouldBe
def wpX7_wouldBe (p1 : Int32) (M : pt_M) (Q : Int32 → pt_M → Prop) : Prop :=
  wpX7_checkRunning M (fun (M_1 : pt_M) => wpX7_checkEvent p1 M_1 (fun (M_5 : pt_M) => wpX4_copyFrom (133 + 1) (125 + 1) M_5 (fun (M_22 : pt_M) => wpX3_proceed 133 p1 M_22 (fun (r_30 : Int32) (M_30 : pt_M) => Q (M_30 (133 + 1) 3) M_30))))
set_option maxHeartbeats 4000000 in
set_option maxRecDepth 100000 in
theorem mtX7_wouldBe (l : Launch) (D : va_G) (cA : Nat → ClassId) (ad : Nat → Nat) (hI : pt_I ad) (sz : Nat) (p1 : Int32) (M : pt_M) (Q : Int32 → pt_M → Prop) (hw : wpX7_wouldBe p1 M Q) : Met l yX7_wouldBe (Cond.code yX7_wouldBe cX7_wouldBe 2 (some .int) :: lw_all) ({ frames := 6, cells := 0, slots := 0, locals := 141 } : Room) (va_Pc [.ref (ad 0), .int p1] (pt_P D cA ad sz M)) (va_Qi Q (pt_B D cA ad) (pt_fr ad sz)) 0 0 (pt_fr ad sz) := by
  refine Met.ofW (cc := cX7_wouldBe) (maxL := 2) (ret := (some .int)) (by decide) rfl ?_
  intro p e s m args below meth c s₁ B hml hv
  obtain ⟨rfl, hsz, hP, hK⟩ := hv
  have hx := B.exec
  have hb := B.bytes
  have hr := B.returns
  have hts0 := atoms_spec (ws := (Cond.code yX7_wouldBe cX7_wouldBe 2 (some .int) :: lw_all)) B.pre
  have hown : s.vm.findClass RX7 = some m.cls := findClass_of_methodNamed B.named
  have hlocks := B.notSynchronized
  subst hsz
  have F : pt_F p m c cX7_wouldBe 2 s _ RX7 D cA := ⟨⟨hx, hb, hml, hown, fun w h => hts0 w (List.mem_cons_of_mem _ h)⟩, hK⟩
  have hD : ∀ M, va_D (pt_fr ad s.heap.size) (pt_W cA ad M) := pt_D hI (fun k h => Or.inl ⟨k, h, rfl⟩)
  have hS : va_S (pt_fr ad s.heap.size) s.heap s.heap [] := va_S.rf
  have hl := lv_entry ([.ref (ad 0), .int p1]) (n := 2) (Nat.le_of_ble_eq_true rfl)
  rw [lg_entry_eq]
  generalize (lg_sl ([.ref (ad 0), .int p1]) ++ List.replicate (2 - (lg_sl ([.ref (ad 0), .int p1])).length) Slot.unset).toArray = ls at hl ⊢
  have hl : lv_has ls 2 [(0, .ref (ad 0)), (1, .int p1)] := hl
  unfold wpX7_wouldBe at hw
  refine lv_aload_n hx hb dX7_wouldBe_0 rfl (lv_at hl 0 rfl) ?_
  refine pt_callv (pt_runV (n := 0) (As := []) (rest := []) F hP (pt_c7 _ pt_k0) (pt_l7 pt_k0) rfl (mtX7_checkRunning l D cA ad hI _ M _ hw) kw_559 kw_556 kw_26 kw_558 kw_17 ⟨by decide, by decide, by decide +kernel⟩ ⟨rfl, rfl, Nat.le_of_ble_eq_true rfl, Nat.le_of_ble_eq_true rfl⟩ rfl hl.1 rfl (Nat.le_of_ble_eq_true rfl) dX7_wouldBe_1 ⟨Nat.zero_le _, Nat.zero_le _⟩) hS (fun _ h => h) (fun M_1 H locs hw hP hS _ _ => ?_)
  refine lv_iload_n hx hb dX7_wouldBe_4 rfl (lv_at hl 1 rfl) ?_
  refine pt_callv (pt_runS (n := 1) (As := [.int p1]) (rest := []) F hP (mtX7_checkEvent l D cA ad hI _ p1 M_1 _ hw) kw_562 kw_560 kw_26 kw_561 ⟨by decide, by decide, by decide +kernel⟩ ⟨rfl, rfl, Nat.le_of_ble_eq_true rfl, Nat.le_of_ble_eq_true rfl⟩ rfl hl.1 rfl (Nat.le_of_ble_eq_true rfl) dX7_wouldBe_5 ⟨Nat.zero_le _, Nat.zero_le _⟩) hS (fun _ h => h) (fun M_5 H locs hw hP hS _ _ => ?_)
  refine lv_aload_n hx hb dX7_wouldBe_8 rfl (lv_at hl 0 rfl) ?_
  refine pt_get F hP (pt_c7 _ pt_k0) (pt_l7 pt_k0) inX7 rfl 2 (by decide) kw_332 rfl rfl dX7_wouldBe_9 ?_
  refine pt_get F hP (pt_c3 _ pt_k133) (pt_l3 pt_k133) inX3 rfl 1 (by decide) kw_252 rfl rfl dX7_wouldBe_12 ?_
  refine lv_aload_n hx hb dX7_wouldBe_15 rfl (lv_at hl 0 rfl) ?_
  refine pt_get F hP (pt_c7 _ pt_k0) (pt_l7 pt_k0) inX7 rfl 1 (by decide) kw_331 rfl rfl dX7_wouldBe_16 ?_
  refine pt_get F hP (pt_c3 _ pt_k125) (pt_l3 pt_k125) inX3 rfl 1 (by decide) kw_252 rfl rfl dX7_wouldBe_19 ?_
  refine pt_callv (pt_runV (n := 1) (As := [.ref (ad (125 + 1))]) (rest := []) F hP (pt_c4 _ (pt_3s pt_k133)) (pt_l4 (pt_3s pt_k133)) rfl (mtX4_copyFrom l D cA ad hI _ (133 + 1) (pt_3s pt_k133) (125 + 1) (pt_3s pt_k125) M_5 _ hw) kw_650 kw_647 kw_32 kw_648 kw_649 ⟨by decide, by decide, by decide +kernel⟩ ⟨rfl, rfl, Nat.le_of_ble_eq_true rfl, Nat.le_of_ble_eq_true rfl⟩ rfl hl.1 rfl (Nat.le_of_ble_eq_true rfl) dX7_wouldBe_22 ⟨Nat.zero_le _, Nat.zero_le _⟩) hS (fun _ h => h) (fun M_22 H locs hw hP hS _ _ => ?_)
  refine lv_aload_n hx hb dX7_wouldBe_25 rfl (lv_at hl 0 rfl) ?_
  refine pt_get F hP (pt_c7 _ pt_k0) (pt_l7 pt_k0) inX7 rfl 2 (by decide) kw_332 rfl rfl dX7_wouldBe_26 ?_
  refine lv_iload_n hx hb dX7_wouldBe_29 rfl (lv_at hl 1 rfl) ?_
  refine pt_calli (pt_runV (n := 1) (As := [.int p1]) (rest := []) F hP (pt_c3 _ pt_k133) (pt_l3 pt_k133) rfl (mtX3_proceed l D cA ad hI _ 133 pt_k133 p1 M_22 _ hw) kw_464 kw_461 kw_31 kw_462 kw_463 ⟨by decide, by decide, by decide +kernel⟩ ⟨rfl, rfl, Nat.le_of_ble_eq_true rfl, Nat.le_of_ble_eq_true rfl⟩ rfl hl.1 rfl (Nat.le_of_ble_eq_true rfl) dX7_wouldBe_30 ⟨Nat.zero_le _, Nat.zero_le _⟩) hS (fun _ h => h) (fun r_30 M_30 H locs hw hP hS _ _ => ?_)
  refine lv_pop hx hb dX7_wouldBe_33 rfl ?_
  refine lv_aload_n hx hb dX7_wouldBe_34 rfl (lv_at hl 0 rfl) ?_
  refine pt_get F hP (pt_c7 _ pt_k0) (pt_l7 pt_k0) inX7 rfl 2 (by decide) kw_332 rfl rfl dX7_wouldBe_35 ?_
  refine pt_get F hP (pt_c3 _ pt_k133) (pt_l3 pt_k133) inX3 rfl 1 (by decide) kw_252 rfl rfl dX7_wouldBe_38 ?_
  refine pt_get F hP (pt_c4 _ (pt_3s pt_k133)) (pt_l4 (pt_3s pt_k133)) inX4 rfl 3 (by decide) kw_239 rfl rfl dX7_wouldBe_41 ?_
  exact W.iret (v := (M_30 (133 + 1) 3)) hx hb hr (fun t ht hW => ⟨⟨(M_30 (133 + 1) 3), M_30, rfl, hw, by unfold pt_B; rw [ht]; exact hP⟩, hS.F ht⟩) hS.2.2 dX7_wouldBe_44
-- ===== X7_open
def wjX7_open_32  (Q : Int32 → pt_M → Prop) (R8 : Int32 → Int32 → pt_M → Prop) (x1 : Int32) (x2 : Int32) (M : pt_M) : Prop :=
  ∀ x2_32 : Int32, x2_32 = x2 + 1 → R8 x1 x2_32 M
def lbX7_open_8  (Q : Int32 → pt_M → Prop)  (R8 : Int32 → Int32 → pt_M → Prop) (x1 : Int32) (x2 : Int32) (M : pt_M) : Prop :=
  (10 ≤ x2 → Q x1 M) ∧ (¬ 10 ≤ x2 → wpX3_openBy 125 x2 M (fun (r_19 : Int32) (M_19 : pt_M) => (r_19 = 0 → wjX7_open_32 Q R8 x1 x2 M_19) ∧ (¬ r_19 = 0 → wpX7_setOf x2 M_19 (fun (r_27 : Int32) (M_27 : pt_M) => ∀ x1_31 : Int32, x1_31 = (x1 ||| r_27) → wjX7_open_32 Q R8 x1_31 x2 M_27))))
def lpX7_open_8  (Q : Int32 → pt_M → Prop)  : Nat → Int32 → Int32 → pt_M → Prop
  | 0 => fun _ _ _ => False
  | n + 1 => fun x1 x2 M => lbX7_open_8 Q (lpX7_open_8 Q n) x1 x2 M
def wpX7_open  (M : pt_M) (Q : Int32 → pt_M → Prop) : Prop :=
  wpX7_checkRunning M (fun (M_1 : pt_M) => ∃ n : Nat, lpX7_open_8 Q n 0 0 M_1)
set_option maxHeartbeats 4000000 in
set_option maxRecDepth 100000 in
theorem mtX7_open (l : Launch) (D : va_G) (cA : Nat → ClassId) (ad : Nat → Nat) (hI : pt_I ad) (sz : Nat) (M : pt_M) (Q : Int32 → pt_M → Prop) (hw : wpX7_open M Q) : Met l yX7_open (Cond.code yX7_open cX7_open 3 (some .int) :: lw_all) ({ frames := 3, cells := 0, slots := 0, locals := 71 } : Room) (va_Pc [.ref (ad 0)] (pt_P D cA ad sz M)) (va_Qi Q (pt_B D cA ad) (pt_fr ad sz)) 0 0 (pt_fr ad sz) := by
  refine Met.ofW (cc := cX7_open) (maxL := 3) (ret := (some .int)) (by decide) rfl ?_
  intro p e s m args below meth c s₁ B hml hv
  obtain ⟨rfl, hsz, hP, hK⟩ := hv
  have hx := B.exec
  have hb := B.bytes
  have hr := B.returns
  have hts0 := atoms_spec (ws := (Cond.code yX7_open cX7_open 3 (some .int) :: lw_all)) B.pre
  have hown : s.vm.findClass RX7 = some m.cls := findClass_of_methodNamed B.named
  have hlocks := B.notSynchronized
  subst hsz
  have F : pt_F p m c cX7_open 3 s _ RX7 D cA := ⟨⟨hx, hb, hml, hown, fun w h => hts0 w (List.mem_cons_of_mem _ h)⟩, hK⟩
  have hD : ∀ M, va_D (pt_fr ad s.heap.size) (pt_W cA ad M) := pt_D hI (fun k h => Or.inl ⟨k, h, rfl⟩)
  have hS : va_S (pt_fr ad s.heap.size) s.heap s.heap [] := va_S.rf
  have hl := lv_entry ([.ref (ad 0)]) (n := 3) (Nat.le_of_ble_eq_true rfl)
  rw [lg_entry_eq]
  generalize (lg_sl ([.ref (ad 0)]) ++ List.replicate (3 - (lg_sl ([.ref (ad 0)])).length) Slot.unset).toArray = ls at hl ⊢
  have hl : lv_has ls 3 [(0, .ref (ad 0))] := hl
  have L8 : ∀ (n8 : Nat) (x1 : Int32) (x2 : Int32) (M : pt_M) (H : Heap) (locs : List Loc) (ls : Array Slot), lpX7_open_8 Q n8 x1 x2 M → va_P D pt_cl (pt_W cA ad M) H → va_S (pt_fr ad s.heap.size) s.heap H locs → lv_has ls 3 [(0, .ref (ad 0)), (1, .int x1), (2, .int x2)] → W p l e (headSpec (Cond.code yX7_open cX7_open 3 (some .int) :: lw_all) ({ frames := 3, cells := 0, slots := 0, locals := 71 } : Room)).room s m ([.ref (ad 0)] : List Value).toArray below meth c H locs 0 0 (MQ below (va_Qi Q (pt_B D cA ad) (pt_fr ad s.heap.size)) ([.ref (ad 0)] : List Value).toArray s 0 0 (pt_fr ad s.heap.size)) (F0 m 8 ls []) := by
    intro n8
    induction n8 with
    | zero => intro x1 x2 M H locs ls hw; exact hw.elim
    | succ n8 ih8 =>
      have J32 : ∀ (x1 : Int32) (x2 : Int32) (M : pt_M) (H : Heap) (locs : List Loc) (ls : Array Slot), wjX7_open_32 Q (lpX7_open_8 Q n8) x1 x2 M → va_P D pt_cl (pt_W cA ad M) H → va_S (pt_fr ad s.heap.size) s.heap H locs → lv_has ls 3 [(0, .ref (ad 0)), (1, .int x1), (2, .int x2)] → W p l e (headSpec (Cond.code yX7_open cX7_open 3 (some .int) :: lw_all) ({ frames := 3, cells := 0, slots := 0, locals := 71 } : Room)).room s m ([.ref (ad 0)] : List Value).toArray below meth c H locs 0 0 (MQ below (va_Qi Q (pt_B D cA ad) (pt_fr ad s.heap.size)) ([.ref (ad 0)] : List Value).toArray s 0 0 (pt_fr ad s.heap.size)) (F0 m 32 ls []) := by
        intro x1 x2 M H locs ls hw hP hS hl
        unfold wjX7_open_32 at hw
        obtain ⟨x2_32, ex2_32⟩ : ∃ y : Int32, y = x2 + 1 := ⟨_, rfl⟩
        replace hw := hw x2_32 ex2_32
        refine lv_iinc (v := x2_32) (lv' := [(2, .int x2_32), (0, .ref (ad 0)), (1, .int x1)]) hx hb dX7_open_32 hl (k := 2) rfl (by rw [ex2_32]; rfl) (by decide) rfl (fun ls hl => ?_)
        refine lv_goto (tgt := 8) hx hb dX7_open_35 (by decide) ?_
        exact ih8 x1 x2_32 M _ _ _ hw hP hS (lv_sub hl [1, 2, 0] rfl)
      intro x1 x2 M H locs ls hw hP hS hl
      replace hw : lbX7_open_8 Q (lpX7_open_8 Q n8) x1 x2 M := hw
      unfold lbX7_open_8 at hw
      refine lv_iload_n hx hb dX7_open_8 rfl (lv_at hl 2 rfl) ?_
      refine lv_bipush (v := 10) hx hb dX7_open_9 (by decide) ?_
      refine lv_icmp_ge (tgt := 38) hx hb dX7_open_11 (by decide) (fun hc11 => ?_) (fun hc11 => ?_)
      · replace hw := hw.1 hc11
        refine lv_iload_n hx hb dX7_open_38 rfl (lv_at hl 1 rfl) ?_
        exact W.iret (v := x1) hx hb hr (fun t ht hW => ⟨⟨x1, M, rfl, hw, by unfold pt_B; rw [ht]; exact hP⟩, hS.F ht⟩) hS.2.2 dX7_open_39
      · replace hw := hw.2 hc11
        refine lv_aload_n hx hb dX7_open_14 rfl (lv_at hl 0 rfl) ?_
        refine pt_get F hP (pt_c7 _ pt_k0) (pt_l7 pt_k0) inX7 rfl 1 (by decide) kw_331 rfl rfl dX7_open_15 ?_
        refine lv_iload_n hx hb dX7_open_18 rfl (lv_at hl 2 rfl) ?_
        refine pt_calli (pt_runV (n := 1) (As := [.int x2]) (rest := []) F hP (pt_c3 _ pt_k125) (pt_l3 pt_k125) rfl (mtX3_openBy l D cA ad hI _ 125 pt_k125 x2 M _ hw) kw_484 kw_662 kw_31 kw_482 kw_483 ⟨by decide, by decide, by decide +kernel⟩ ⟨rfl, rfl, Nat.le_of_ble_eq_true rfl, Nat.le_of_ble_eq_true rfl⟩ rfl hl.1 rfl (Nat.le_of_ble_eq_true rfl) dX7_open_19 ⟨Nat.zero_le _, Nat.zero_le _⟩) hS (fun _ h => h) (fun r_19 M_19 H locs hw hP hS _ _ => ?_)
        refine lv_if_eq (tgt := 32) hx hb dX7_open_22 (by decide) (fun hc22 => ?_) (fun hc22 => ?_)
        · replace hw := hw.1 hc22
          exact J32 x1 x2 M_19 _ _ _ hw hP hS (lv_sub hl [0, 1, 2] rfl)
        · replace hw := hw.2 hc22
          refine lv_iload_n hx hb dX7_open_25 rfl (lv_at hl 1 rfl) ?_
          refine lv_iload_n hx hb dX7_open_26 rfl (lv_at hl 2 rfl) ?_
          refine pt_calli (pt_runS (n := 1) (As := [.int x2]) (rest := [.int x1]) F hP (mtX7_setOf l D cA ad hI _ x2 M_19 _ hw) kw_63 kw_429 kw_26 kw_62 ⟨by decide, by decide, by decide +kernel⟩ ⟨rfl, rfl, Nat.le_of_ble_eq_true rfl, Nat.le_of_ble_eq_true rfl⟩ rfl hl.1 rfl (Nat.le_of_ble_eq_true rfl) dX7_open_27 ⟨Nat.zero_le _, Nat.zero_le _⟩) hS (fun _ h => h) (fun r_27 M_27 H locs hw hP hS _ _ => ?_)
          refine lv_ior hx hb dX7_open_30 ?_
          refine lv_topi (fun x1_31 ex1_31 => ?_)
          replace hw := hw x1_31 ex1_31
          refine lv_istore_n (lv' := [(1, .int x1_31), (0, .ref (ad 0)), (2, .int x2)]) hx hb dX7_open_31 rfl hl (by decide) rfl (fun ls hl => ?_)
          exact J32 x1_31 x2 M_27 _ _ _ hw hP hS (lv_sub hl [1, 0, 2] rfl)
  unfold wpX7_open at hw
  refine lv_aload_n hx hb dX7_open_0 rfl (lv_at hl 0 rfl) ?_
  refine pt_callv (pt_runV (n := 0) (As := []) (rest := []) F hP (pt_c7 _ pt_k0) (pt_l7 pt_k0) rfl (mtX7_checkRunning l D cA ad hI _ M _ hw) kw_559 kw_556 kw_26 kw_558 kw_17 ⟨by decide, by decide, by decide +kernel⟩ ⟨rfl, rfl, Nat.le_of_ble_eq_true rfl, Nat.le_of_ble_eq_true rfl⟩ rfl hl.1 rfl (Nat.le_of_ble_eq_true rfl) dX7_open_1 ⟨Nat.zero_le _, Nat.zero_le _⟩) hS (fun _ h => h) (fun M_1 H locs hw hP hS _ _ => ?_)
  refine lv_iconst (v := 0) hx hb dX7_open_4 (by decide) ?_
  refine lv_istore_n (lv' := [(1, .int 0), (0, .ref (ad 0))]) hx hb dX7_open_5 rfl hl (by decide) rfl (fun ls hl => ?_)
  refine lv_iconst (v := 0) hx hb dX7_open_6 (by decide) ?_
  refine lv_istore_n (lv' := [(2, .int 0), (1, .int 0), (0, .ref (ad 0))]) hx hb dX7_open_7 rfl hl (by decide) rfl (fun ls hl => ?_)
  obtain ⟨n_, hw⟩ := hw
  exact L8 n_ 0 0 M_1 _ _ _ hw hP hS (lv_sub hl [2, 1, 0] rfl)
-- ===== X7_rowTo
def wpX7_rowTo (p1 : Int32) (p2 : Int32) (M : pt_M) (Q : Int32 → pt_M → Prop) : Prop :=
  wpX7_checkRunning M (fun (M_1 : pt_M) => wpX7_checkState p1 M_1 (fun (M_6 : pt_M) => wpX7_checkMost p2 M_6 (fun (M_10 : pt_M) => wpX2_search (125 + 1) p1 (-1) p2 M_10 (fun (r_27 : Int32) (M_27 : pt_M) => Q r_27 M_27))))
set_option maxHeartbeats 4000000 in
set_option maxRecDepth 100000 in
theorem mtX7_rowTo (l : Launch) (D : va_G) (cA : Nat → ClassId) (ad : Nat → Nat) (hI : pt_I ad) (sz : Nat) (p1 : Int32) (p2 : Int32) (M : pt_M) (Q : Int32 → pt_M → Prop) (hw : wpX7_rowTo p1 p2 M Q) : Met l yX7_rowTo (Cond.code yX7_rowTo cX7_rowTo 3 (some .int) :: lw_all) ({ frames := 7, cells := 0, slots := 0, locals := 167 } : Room) (va_Pc [.ref (ad 0), .int p1, .int p2] (pt_P D cA ad sz M)) (va_Qi Q (pt_B D cA ad) (pt_fr ad sz)) 0 0 (pt_fr ad sz) := by
  refine Met.ofW (cc := cX7_rowTo) (maxL := 3) (ret := (some .int)) (by decide) rfl ?_
  intro p e s m args below meth c s₁ B hml hv
  obtain ⟨rfl, hsz, hP, hK⟩ := hv
  have hx := B.exec
  have hb := B.bytes
  have hr := B.returns
  have hts0 := atoms_spec (ws := (Cond.code yX7_rowTo cX7_rowTo 3 (some .int) :: lw_all)) B.pre
  have hown : s.vm.findClass RX7 = some m.cls := findClass_of_methodNamed B.named
  have hlocks := B.notSynchronized
  subst hsz
  have F : pt_F p m c cX7_rowTo 3 s _ RX7 D cA := ⟨⟨hx, hb, hml, hown, fun w h => hts0 w (List.mem_cons_of_mem _ h)⟩, hK⟩
  have hD : ∀ M, va_D (pt_fr ad s.heap.size) (pt_W cA ad M) := pt_D hI (fun k h => Or.inl ⟨k, h, rfl⟩)
  have hS : va_S (pt_fr ad s.heap.size) s.heap s.heap [] := va_S.rf
  have hl := lv_entry ([.ref (ad 0), .int p1, .int p2]) (n := 3) (Nat.le_of_ble_eq_true rfl)
  rw [lg_entry_eq]
  generalize (lg_sl ([.ref (ad 0), .int p1, .int p2]) ++ List.replicate (3 - (lg_sl ([.ref (ad 0), .int p1, .int p2])).length) Slot.unset).toArray = ls at hl ⊢
  have hl : lv_has ls 3 [(0, .ref (ad 0)), (1, .int p1), (2, .int p2)] := hl
  unfold wpX7_rowTo at hw
  refine lv_aload_n hx hb dX7_rowTo_0 rfl (lv_at hl 0 rfl) ?_
  refine pt_callv (pt_runV (n := 0) (As := []) (rest := []) F hP (pt_c7 _ pt_k0) (pt_l7 pt_k0) rfl (mtX7_checkRunning l D cA ad hI _ M _ hw) kw_559 kw_556 kw_26 kw_558 kw_17 ⟨by decide, by decide, by decide +kernel⟩ ⟨rfl, rfl, Nat.le_of_ble_eq_true rfl, Nat.le_of_ble_eq_true rfl⟩ rfl hl.1 rfl (Nat.le_of_ble_eq_true rfl) dX7_rowTo_1 ⟨Nat.zero_le _, Nat.zero_le _⟩) hS (fun _ h => h) (fun M_1 H locs hw hP hS _ _ => ?_)
  refine lv_aload_n hx hb dX7_rowTo_4 rfl (lv_at hl 0 rfl) ?_
  refine lv_iload_n hx hb dX7_rowTo_5 rfl (lv_at hl 1 rfl) ?_
  refine pt_callv (pt_runV (n := 1) (As := [.int p1]) (rest := []) F hP (pt_c7 _ pt_k0) (pt_l7 pt_k0) rfl (mtX7_checkState l D cA ad hI _ p1 M_1 _ hw) kw_605 kw_602 kw_26 kw_604 kw_18 ⟨by decide, by decide, by decide +kernel⟩ ⟨rfl, rfl, Nat.le_of_ble_eq_true rfl, Nat.le_of_ble_eq_true rfl⟩ rfl hl.1 rfl (Nat.le_of_ble_eq_true rfl) dX7_rowTo_6 ⟨Nat.zero_le _, Nat.zero_le _⟩) hS (fun _ h => h) (fun M_6 H locs hw hP hS _ _ => ?_)
  refine lv_iload_n hx hb dX7_rowTo_9 rfl (lv_at hl 2 rfl) ?_
  refine pt_callv (pt_runS (n := 1) (As := [.int p2]) (rest := []) F hP (mtX7_checkMost l D cA ad hI _ p2 M_6 _ hw) kw_669 kw_667 kw_26 kw_668 ⟨by decide, by decide, by decide +kernel⟩ ⟨rfl, rfl, Nat.le_of_ble_eq_true rfl, Nat.le_of_ble_eq_true rfl⟩ rfl hl.1 rfl (Nat.le_of_ble_eq_true rfl) dX7_rowTo_10 ⟨Nat.zero_le _, Nat.zero_le _⟩) hS (fun _ h => h) (fun M_10 H locs hw hP hS _ _ => ?_)
  refine lv_aload_n hx hb dX7_rowTo_13 rfl (lv_at hl 0 rfl) ?_
  refine pt_get F hP (pt_c7 _ pt_k0) (pt_l7 pt_k0) inX7 rfl 3 (by decide) kw_333 rfl rfl dX7_rowTo_14 ?_
  refine lv_aload_n hx hb dX7_rowTo_17 rfl (lv_at hl 0 rfl) ?_
  refine pt_get F hP (pt_c7 _ pt_k0) (pt_l7 pt_k0) inX7 rfl 1 (by decide) kw_331 rfl rfl dX7_rowTo_18 ?_
  refine pt_get F hP (pt_c3 _ pt_k125) (pt_l3 pt_k125) inX3 rfl 1 (by decide) kw_252 rfl rfl dX7_rowTo_21 ?_
  refine lv_iload_n hx hb dX7_rowTo_24 rfl (lv_at hl 1 rfl) ?_
  refine lv_iconst (v := (-1)) hx hb dX7_rowTo_25 (by decide) ?_
  refine lv_iload_n hx hb dX7_rowTo_26 rfl (lv_at hl 2 rfl) ?_
  refine pt_calli (pt_runV (n := 4) (As := [.ref (ad (125 + 1)), .int p1, .int (-1), .int p2]) (rest := []) F hP (pt_c2 _ pt_k141) (pt_l2 pt_k141) rfl (mtX2_search l D cA ad hI _ (125 + 1) (pt_3s pt_k125) p1 (-1) p2 M_10 _ hw) kw_673 kw_670 kw_33 kw_671 kw_672 ⟨by decide, by decide, by decide +kernel⟩ ⟨rfl, rfl, Nat.le_of_ble_eq_true rfl, Nat.le_of_ble_eq_true rfl⟩ rfl hl.1 rfl (Nat.le_of_ble_eq_true rfl) dX7_rowTo_27 ⟨Nat.zero_le _, Nat.zero_le _⟩) hS (fun _ h => h) (fun r_27 M_27 H locs hw hP hS _ _ => ?_)
  exact W.iret (v := r_27) hx hb hr (fun t ht hW => ⟨⟨r_27, M_27, rfl, hw, by unfold pt_B; rw [ht]; exact hP⟩, hS.F ht⟩) hS.2.2 dX7_rowTo_30
-- ===== X7_rowAt
def wjX7_rowAt_30 (p1 : Int32) (Q : Int32 → pt_M → Prop)  (xs0 : Int32) (M : pt_M) : Prop :=
  Q xs0 M
def wpX7_rowAt (p1 : Int32) (M : pt_M) (Q : Int32 → pt_M → Prop) : Prop :=
  wpX7_isWithin p1 0 ((M 141 1) - 1) M (fun (r_11 : Int32) (M_11 : pt_M) => (r_11 = 0 → wjX7_rowAt_30 p1 Q (-1) M_11) ∧ (¬ r_11 = 0 → vp_in p1 8 ∧ (wjX7_rowAt_30 p1 Q (M_11 142 (Int32.toNatClampNeg p1)) M_11)))
set_option maxHeartbeats 4000000 in
set_option maxRecDepth 100000 in
theorem mtX7_rowAt (l : Launch) (D : va_G) (cA : Nat → ClassId) (ad : Nat → Nat) (hI : pt_I ad) (sz : Nat) (p1 : Int32) (M : pt_M) (Q : Int32 → pt_M → Prop) (hw : wpX7_rowAt p1 M Q) : Met l yX7_rowAt (Cond.code yX7_rowAt cX7_rowAt 2 (some .int) :: lw_all) ({ frames := 1, cells := 0, slots := 0, locals := 22 } : Room) (va_Pc [.ref (ad 0), .int p1] (pt_P D cA ad sz M)) (va_Qi Q (pt_B D cA ad) (pt_fr ad sz)) 0 0 (pt_fr ad sz) := by
  refine Met.ofW (cc := cX7_rowAt) (maxL := 2) (ret := (some .int)) (by decide) rfl ?_
  intro p e s m args below meth c s₁ B hml hv
  obtain ⟨rfl, hsz, hP, hK⟩ := hv
  have hx := B.exec
  have hb := B.bytes
  have hr := B.returns
  have hts0 := atoms_spec (ws := (Cond.code yX7_rowAt cX7_rowAt 2 (some .int) :: lw_all)) B.pre
  have hown : s.vm.findClass RX7 = some m.cls := findClass_of_methodNamed B.named
  have hlocks := B.notSynchronized
  subst hsz
  have F : pt_F p m c cX7_rowAt 2 s _ RX7 D cA := ⟨⟨hx, hb, hml, hown, fun w h => hts0 w (List.mem_cons_of_mem _ h)⟩, hK⟩
  have hD : ∀ M, va_D (pt_fr ad s.heap.size) (pt_W cA ad M) := pt_D hI (fun k h => Or.inl ⟨k, h, rfl⟩)
  have hS : va_S (pt_fr ad s.heap.size) s.heap s.heap [] := va_S.rf
  have hl := lv_entry ([.ref (ad 0), .int p1]) (n := 2) (Nat.le_of_ble_eq_true rfl)
  rw [lg_entry_eq]
  generalize (lg_sl ([.ref (ad 0), .int p1]) ++ List.replicate (2 - (lg_sl ([.ref (ad 0), .int p1])).length) Slot.unset).toArray = ls at hl ⊢
  have hl : lv_has ls 2 [(0, .ref (ad 0)), (1, .int p1)] := hl
  have J30 : ∀ (xs0 : Int32) (M : pt_M) (H : Heap) (locs : List Loc) (ls : Array Slot), wjX7_rowAt_30 p1 Q xs0 M → va_P D pt_cl (pt_W cA ad M) H → va_S (pt_fr ad s.heap.size) s.heap H locs → lv_has ls 2 [] → W p l e (headSpec (Cond.code yX7_rowAt cX7_rowAt 2 (some .int) :: lw_all) ({ frames := 1, cells := 0, slots := 0, locals := 22 } : Room)).room s m ([.ref (ad 0), .int p1] : List Value).toArray below meth c H locs 0 0 (MQ below (va_Qi Q (pt_B D cA ad) (pt_fr ad s.heap.size)) ([.ref (ad 0), .int p1] : List Value).toArray s 0 0 (pt_fr ad s.heap.size)) (F0 m 30 ls [.int xs0]) := by
    intro xs0 M H locs ls hw hP hS hl
    unfold wjX7_rowAt_30 at hw
    exact W.iret (v := xs0) hx hb hr (fun t ht hW => ⟨⟨xs0, M, rfl, hw, by unfold pt_B; rw [ht]; exact hP⟩, hS.F ht⟩) hS.2.2 dX7_rowAt_30
  unfold wpX7_rowAt at hw
  refine lv_iload_n hx hb dX7_rowAt_0 rfl (lv_at hl 1 rfl) ?_
  refine lv_iconst (v := 0) hx hb dX7_rowAt_1 (by decide) ?_
  refine lv_aload_n hx hb dX7_rowAt_2 rfl (lv_at hl 0 rfl) ?_
  refine pt_get F hP (pt_c7 _ pt_k0) (pt_l7 pt_k0) inX7 rfl 3 (by decide) kw_333 rfl rfl dX7_rowAt_3 ?_
  refine pt_get F hP (pt_c2 _ pt_k141) (pt_l2 pt_k141) inX2 rfl 1 (by decide) kw_302 rfl rfl dX7_rowAt_6 ?_
  refine lv_iconst (v := 1) hx hb dX7_rowAt_9 (by decide) ?_
  refine lv_isub hx hb dX7_rowAt_10 ?_
  refine pt_calli (pt_runS (n := 3) (As := [.int p1, .int 0, .int ((M 141 1) - 1)]) (rest := []) F hP (mtX7_isWithin l D cA ad hI _ p1 0 ((M 141 1) - 1) M _ hw) kw_565 kw_563 kw_26 kw_564 ⟨by decide, by decide, by decide +kernel⟩ ⟨rfl, rfl, Nat.le_of_ble_eq_true rfl, Nat.le_of_ble_eq_true rfl⟩ rfl hl.1 rfl (Nat.le_of_ble_eq_true rfl) dX7_rowAt_11 ⟨Nat.zero_le _, Nat.zero_le _⟩) hS (fun _ h => h) (fun r_11 M_11 H locs hw hP hS _ _ => ?_)
  refine lv_if_eq (tgt := 29) hx hb dX7_rowAt_14 (by decide) (fun hc14 => ?_) (fun hc14 => ?_)
  · replace hw := hw.1 hc14
    refine lv_iconst (v := (-1)) hx hb dX7_rowAt_29 (by decide) ?_
    exact J30 (-1) M_11 _ _ _ hw hP hS (lv_sub hl [] rfl)
  · replace hw := hw.2 hc14
    refine lv_aload_n hx hb dX7_rowAt_17 rfl (lv_at hl 0 rfl) ?_
    refine pt_get F hP (pt_c7 _ pt_k0) (pt_l7 pt_k0) inX7 rfl 3 (by decide) kw_333 rfl rfl dX7_rowAt_18 ?_
    refine pt_get F hP (pt_c2 _ pt_k141) (pt_l2 pt_k141) inX2 rfl 0 (by decide) kw_300 rfl rfl dX7_rowAt_21 ?_
    refine lv_iload_n hx hb dX7_rowAt_24 rfl (lv_at hl 1 rfl) ?_
    have hv25 := hw.1
    replace hw := hw.2
    refine pt_iald F hP pt_a142 hv25 dX7_rowAt_25 ?_
    refine lv_goto (tgt := 30) hx hb dX7_rowAt_26 (by decide) ?_
    exact J30 (M_11 142 (Int32.toNatClampNeg p1)) M_11 _ _ _ hw hP hS (lv_sub hl [] rfl)
-- ===== X7_looked
def wpX7_looked  (M : pt_M) (Q : Int32 → pt_M → Prop) : Prop :=
  Q (M 141 2) M
set_option maxHeartbeats 4000000 in
set_option maxRecDepth 100000 in
theorem mtX7_looked (l : Launch) (D : va_G) (cA : Nat → ClassId) (ad : Nat → Nat) (hI : pt_I ad) (sz : Nat) (M : pt_M) (Q : Int32 → pt_M → Prop) (hw : wpX7_looked M Q) : Met l yX7_looked (Cond.code yX7_looked cX7_looked 1 (some .int) :: lw_all) ({ frames := 0, cells := 0, slots := 0, locals := 0 } : Room) (va_Pc [.ref (ad 0)] (pt_P D cA ad sz M)) (va_Qi Q (pt_B D cA ad) (pt_fr ad sz)) 0 0 (pt_fr ad sz) := by
  refine Met.ofW (cc := cX7_looked) (maxL := 1) (ret := (some .int)) (by decide) rfl ?_
  intro p e s m args below meth c s₁ B hml hv
  obtain ⟨rfl, hsz, hP, hK⟩ := hv
  have hx := B.exec
  have hb := B.bytes
  have hr := B.returns
  have hts0 := atoms_spec (ws := (Cond.code yX7_looked cX7_looked 1 (some .int) :: lw_all)) B.pre
  have hown : s.vm.findClass RX7 = some m.cls := findClass_of_methodNamed B.named
  have hlocks := B.notSynchronized
  subst hsz
  have F : pt_F p m c cX7_looked 1 s _ RX7 D cA := ⟨⟨hx, hb, hml, hown, fun w h => hts0 w (List.mem_cons_of_mem _ h)⟩, hK⟩
  have hD : ∀ M, va_D (pt_fr ad s.heap.size) (pt_W cA ad M) := pt_D hI (fun k h => Or.inl ⟨k, h, rfl⟩)
  have hS : va_S (pt_fr ad s.heap.size) s.heap s.heap [] := va_S.rf
  have hl := lv_entry ([.ref (ad 0)]) (n := 1) (Nat.le_of_ble_eq_true rfl)
  rw [lg_entry_eq]
  generalize (lg_sl ([.ref (ad 0)]) ++ List.replicate (1 - (lg_sl ([.ref (ad 0)])).length) Slot.unset).toArray = ls at hl ⊢
  have hl : lv_has ls 1 [(0, .ref (ad 0))] := hl
  unfold wpX7_looked at hw
  refine lv_aload_n hx hb dX7_looked_0 rfl (lv_at hl 0 rfl) ?_
  refine pt_get F hP (pt_c7 _ pt_k0) (pt_l7 pt_k0) inX7 rfl 3 (by decide) kw_333 rfl rfl dX7_looked_1 ?_
  refine pt_get F hP (pt_c2 _ pt_k141) (pt_l2 pt_k141) inX2 rfl 2 (by decide) kw_304 rfl rfl dX7_looked_4 ?_
  exact W.iret (v := (M 141 2)) hx hb hr (fun t ht hW => ⟨⟨(M 141 2), M, rfl, hw, by unfold pt_B; rw [ht]; exact hP⟩, hS.F ht⟩) hS.2.2 dX7_looked_7
-- ===== X7_meanAge
def wjX7_meanAge_67  (Q : UInt64 → pt_M → Prop) (R24 : Int32 → Int32 → Int32 → pt_M → Prop) (x1 : Int32) (x2 : Int32) (x3 : Int32) (M : pt_M) : Prop :=
  ∀ x3_67 : Int32, x3_67 = x3 + 1 → R24 x1 x2 x3_67 M
def lbX7_meanAge_24  (Q : UInt64 → pt_M → Prop)  (R24 : Int32 → Int32 → Int32 → pt_M → Prop) (x1 : Int32) (x2 : Int32) (x3 : Int32) (M : pt_M) : Prop :=
  ((M 1 3) ≤ x3 → vf_n64 (FP.ddiv (FP.i2d x2) (FP.i2d x1)) ∧ (Q (FP.ddiv (FP.i2d x2) (FP.i2d x1)) M)) ∧ (¬ (M 1 3) ≤ x3 → wpX7_has (M (125 + 1) 3) x3 M (fun (r_46 : Int32) (M_46 : pt_M) => (r_46 = 0 → wjX7_meanAge_67 Q R24 x1 x2 x3 M_46) ∧ (¬ r_46 = 0 → vp_in x3 20 ∧ (∀ x2_66 : Int32, x2_66 = (x2 + (M_46 ((125 + 1) + 1) (Int32.toNatClampNeg x3))) → wjX7_meanAge_67 Q R24 x1 x2_66 x3 M_46))))
def lpX7_meanAge_24  (Q : UInt64 → pt_M → Prop)  : Nat → Int32 → Int32 → Int32 → pt_M → Prop
  | 0 => fun _ _ _ _ => False
  | n + 1 => fun x1 x2 x3 M => lbX7_meanAge_24 Q (lpX7_meanAge_24 Q n) x1 x2 x3 M
def wpX7_meanAge  (M : pt_M) (Q : UInt64 → pt_M → Prop) : Prop :=
  wpJ6_bitCount_0f7a4 (M (125 + 1) 3) M (fun (r_10 : Int32) (M_10 : pt_M) => (¬ r_10 = 0 → ∃ n : Nat, lpX7_meanAge_24 Q n r_10 0 0 M_10) ∧ (r_10 = 0 → Q 0 M_10))
set_option maxHeartbeats 4000000 in
set_option maxRecDepth 100000 in
theorem mtX7_meanAge (l : Launch) (D : va_G) (cA : Nat → ClassId) (ad : Nat → Nat) (hI : pt_I ad) (sz : Nat) (M : pt_M) (Q : UInt64 → pt_M → Prop) (hw : wpX7_meanAge M Q) : Met l yX7_meanAge (Cond.code yX7_meanAge cX7_meanAge 4 (some .double) :: lw_all) ({ frames := 1, cells := 0, slots := 0, locals := 21 } : Room) (va_Pc [.ref (ad 0)] (pt_P D cA ad sz M)) (va_Qd Q (pt_B D cA ad) (pt_fr ad sz)) 0 0 (pt_fr ad sz) := by
  refine Met.ofW (cc := cX7_meanAge) (maxL := 4) (ret := (some .double)) (by decide) rfl ?_
  intro p e s m args below meth c s₁ B hml hv
  obtain ⟨rfl, hsz, hP, hK⟩ := hv
  have hx := B.exec
  have hb := B.bytes
  have hr := B.returns
  have hts0 := atoms_spec (ws := (Cond.code yX7_meanAge cX7_meanAge 4 (some .double) :: lw_all)) B.pre
  have hown : s.vm.findClass RX7 = some m.cls := findClass_of_methodNamed B.named
  have hlocks := B.notSynchronized
  subst hsz
  have F : pt_F p m c cX7_meanAge 4 s _ RX7 D cA := ⟨⟨hx, hb, hml, hown, fun w h => hts0 w (List.mem_cons_of_mem _ h)⟩, hK⟩
  have hD : ∀ M, va_D (pt_fr ad s.heap.size) (pt_W cA ad M) := pt_D hI (fun k h => Or.inl ⟨k, h, rfl⟩)
  have hS : va_S (pt_fr ad s.heap.size) s.heap s.heap [] := va_S.rf
  have hl := lv_entry ([.ref (ad 0)]) (n := 4) (Nat.le_of_ble_eq_true rfl)
  rw [lg_entry_eq]
  generalize (lg_sl ([.ref (ad 0)]) ++ List.replicate (4 - (lg_sl ([.ref (ad 0)])).length) Slot.unset).toArray = ls at hl ⊢
  have hl : lv_has ls 4 [(0, .ref (ad 0))] := hl
  have L24 : ∀ (n24 : Nat) (x1 : Int32) (x2 : Int32) (x3 : Int32) (M : pt_M) (H : Heap) (locs : List Loc) (ls : Array Slot), lpX7_meanAge_24 Q n24 x1 x2 x3 M → va_P D pt_cl (pt_W cA ad M) H → va_S (pt_fr ad s.heap.size) s.heap H locs → lv_has ls 4 [(0, .ref (ad 0)), (1, .int x1), (2, .int x2), (3, .int x3)] → W p l e (headSpec (Cond.code yX7_meanAge cX7_meanAge 4 (some .double) :: lw_all) ({ frames := 1, cells := 0, slots := 0, locals := 21 } : Room)).room s m ([.ref (ad 0)] : List Value).toArray below meth c H locs 0 0 (MQ below (va_Qd Q (pt_B D cA ad) (pt_fr ad s.heap.size)) ([.ref (ad 0)] : List Value).toArray s 0 0 (pt_fr ad s.heap.size)) (F0 m 24 ls []) := by
    intro n24
    induction n24 with
    | zero => intro x1 x2 x3 M H locs ls hw; exact hw.elim
    | succ n24 ih24 =>
      have J67 : ∀ (x1 : Int32) (x2 : Int32) (x3 : Int32) (M : pt_M) (H : Heap) (locs : List Loc) (ls : Array Slot), wjX7_meanAge_67 Q (lpX7_meanAge_24 Q n24) x1 x2 x3 M → va_P D pt_cl (pt_W cA ad M) H → va_S (pt_fr ad s.heap.size) s.heap H locs → lv_has ls 4 [(0, .ref (ad 0)), (1, .int x1), (2, .int x2), (3, .int x3)] → W p l e (headSpec (Cond.code yX7_meanAge cX7_meanAge 4 (some .double) :: lw_all) ({ frames := 1, cells := 0, slots := 0, locals := 21 } : Room)).room s m ([.ref (ad 0)] : List Value).toArray below meth c H locs 0 0 (MQ below (va_Qd Q (pt_B D cA ad) (pt_fr ad s.heap.size)) ([.ref (ad 0)] : List Value).toArray s 0 0 (pt_fr ad s.heap.size)) (F0 m 67 ls []) := by
        intro x1 x2 x3 M H locs ls hw hP hS hl
        unfold wjX7_meanAge_67 at hw
        obtain ⟨x3_67, ex3_67⟩ : ∃ y : Int32, y = x3 + 1 := ⟨_, rfl⟩
        replace hw := hw x3_67 ex3_67
        refine lv_iinc (v := x3_67) (lv' := [(3, .int x3_67), (0, .ref (ad 0)), (1, .int x1), (2, .int x2)]) hx hb dX7_meanAge_67 hl (k := 3) rfl (by rw [ex3_67]; rfl) (by decide) rfl (fun ls hl => ?_)
        refine lv_goto (tgt := 24) hx hb dX7_meanAge_70 (by decide) ?_
        exact ih24 x1 x2 x3_67 M _ _ _ hw hP hS (lv_sub hl [1, 2, 3, 0] rfl)
      intro x1 x2 x3 M H locs ls hw hP hS hl
      replace hw : lbX7_meanAge_24 Q (lpX7_meanAge_24 Q n24) x1 x2 x3 M := hw
      unfold lbX7_meanAge_24 at hw
      refine lv_iload_n hx hb dX7_meanAge_24 rfl (lv_at hl 3 rfl) ?_
      refine lv_aload_n hx hb dX7_meanAge_25 rfl (lv_at hl 0 rfl) ?_
      refine pt_get F hP (pt_c7 _ pt_k0) (pt_l7 pt_k0) inX7 rfl 0 (by decide) kw_330 rfl rfl dX7_meanAge_26 ?_
      refine pt_get F hP (pt_c1 _ pt_k1) (pt_l1 pt_k1) inX1 rfl 3 (by decide) kw_191 rfl rfl dX7_meanAge_29 ?_
      refine lv_icmp_ge (tgt := 73) hx hb dX7_meanAge_32 (by decide) (fun hc32 => ?_) (fun hc32 => ?_)
      · replace hw := hw.1 hc32
        refine lv_iload_n hx hb dX7_meanAge_73 rfl (lv_at hl 2 rfl) ?_
        refine lv_i2d hx hb dX7_meanAge_74 ?_
        refine lv_iload_n hx hb dX7_meanAge_75 rfl (lv_at hl 1 rfl) ?_
        refine lv_i2d hx hb dX7_meanAge_76 ?_
        have hz77 := hw.1
        replace hw := hw.2
        refine lv_ddiv hx hb dX7_meanAge_77 hz77 ?_
        exact W.dret (v := (FP.ddiv (FP.i2d x2) (FP.i2d x1))) hx hb hr (fun t ht hW => ⟨⟨(FP.ddiv (FP.i2d x2) (FP.i2d x1)), M, rfl, hw, by unfold pt_B; rw [ht]; exact hP⟩, hS.F ht⟩) hS.2.2 dX7_meanAge_78
      · replace hw := hw.2 hc32
        refine lv_aload_n hx hb dX7_meanAge_35 rfl (lv_at hl 0 rfl) ?_
        refine pt_get F hP (pt_c7 _ pt_k0) (pt_l7 pt_k0) inX7 rfl 1 (by decide) kw_331 rfl rfl dX7_meanAge_36 ?_
        refine pt_get F hP (pt_c3 _ pt_k125) (pt_l3 pt_k125) inX3 rfl 1 (by decide) kw_252 rfl rfl dX7_meanAge_39 ?_
        refine pt_get F hP (pt_c4 _ (pt_3s pt_k125)) (pt_l4 (pt_3s pt_k125)) inX4 rfl 3 (by decide) kw_239 rfl rfl dX7_meanAge_42 ?_
        refine lv_iload_n hx hb dX7_meanAge_45 rfl (lv_at hl 3 rfl) ?_
        refine pt_calli (pt_runS (n := 2) (As := [.int (M (125 + 1) 3), .int x3]) (rest := []) F hP (mtX7_has l D cA ad hI _ (M (125 + 1) 3) x3 M _ hw) kw_436 kw_622 kw_26 kw_435 ⟨by decide, by decide, by decide +kernel⟩ ⟨rfl, rfl, Nat.le_of_ble_eq_true rfl, Nat.le_of_ble_eq_true rfl⟩ rfl hl.1 rfl (Nat.le_of_ble_eq_true rfl) dX7_meanAge_46 ⟨Nat.zero_le _, Nat.zero_le _⟩) hS (fun _ h => h) (fun r_46 M_46 H locs hw hP hS _ _ => ?_)
        refine lv_if_eq (tgt := 67) hx hb dX7_meanAge_49 (by decide) (fun hc49 => ?_) (fun hc49 => ?_)
        · replace hw := hw.1 hc49
          exact J67 x1 x2 x3 M_46 _ _ _ hw hP hS (lv_sub hl [0, 1, 2, 3] rfl)
        · replace hw := hw.2 hc49
          refine lv_iload_n hx hb dX7_meanAge_52 rfl (lv_at hl 2 rfl) ?_
          refine lv_aload_n hx hb dX7_meanAge_53 rfl (lv_at hl 0 rfl) ?_
          refine pt_get F hP (pt_c7 _ pt_k0) (pt_l7 pt_k0) inX7 rfl 1 (by decide) kw_331 rfl rfl dX7_meanAge_54 ?_
          refine pt_get F hP (pt_c3 _ pt_k125) (pt_l3 pt_k125) inX3 rfl 1 (by decide) kw_252 rfl rfl dX7_meanAge_57 ?_
          refine pt_get F hP (pt_c4 _ (pt_3s pt_k125)) (pt_l4 (pt_3s pt_k125)) inX4 rfl 0 (by decide) kw_229 rfl rfl dX7_meanAge_60 ?_
          refine lv_iload_n hx hb dX7_meanAge_63 rfl (lv_at hl 3 rfl) ?_
          have hv64 := hw.1
          replace hw := hw.2
          refine pt_iald F hP (pt_4a (pt_3s pt_k125)) hv64 dX7_meanAge_64 ?_
          refine lv_iadd hx hb dX7_meanAge_65 ?_
          refine lv_topi (fun x2_66 ex2_66 => ?_)
          replace hw := hw x2_66 ex2_66
          refine lv_istore_n (lv' := [(2, .int x2_66), (0, .ref (ad 0)), (1, .int x1), (3, .int x3)]) hx hb dX7_meanAge_66 rfl hl (by decide) rfl (fun ls hl => ?_)
          exact J67 x1 x2_66 x3 M_46 _ _ _ hw hP hS (lv_sub hl [1, 2, 0, 3] rfl)
  unfold wpX7_meanAge at hw
  refine lv_aload_n hx hb dX7_meanAge_0 rfl (lv_at hl 0 rfl) ?_
  refine pt_get F hP (pt_c7 _ pt_k0) (pt_l7 pt_k0) inX7 rfl 1 (by decide) kw_331 rfl rfl dX7_meanAge_1 ?_
  refine pt_get F hP (pt_c3 _ pt_k125) (pt_l3 pt_k125) inX3 rfl 1 (by decide) kw_252 rfl rfl dX7_meanAge_4 ?_
  refine pt_get F hP (pt_c4 _ (pt_3s pt_k125)) (pt_l4 (pt_3s pt_k125)) inX4 rfl 3 (by decide) kw_239 rfl rfl dX7_meanAge_7 ?_
  refine pt_calli (pt_runS (n := 1) (As := [.int (M (125 + 1) 3)]) (rest := []) F hP (mtJ6_bitCount_0f7a4 l D cA ad hI _ (M (125 + 1) 3) M _ hw) kw_510 kw_733 kw_41 kw_509 ⟨by decide, by decide, by decide +kernel⟩ ⟨rfl, rfl, Nat.le_of_ble_eq_true rfl, Nat.le_of_ble_eq_true rfl⟩ rfl hl.1 rfl (Nat.le_of_ble_eq_true rfl) dX7_meanAge_10 ⟨Nat.zero_le _, Nat.zero_le _⟩) hS (fun _ h => h) (fun r_10 M_10 H locs hw hP hS _ _ => ?_)
  refine lv_istore_n (lv' := [(1, .int r_10), (0, .ref (ad 0))]) hx hb dX7_meanAge_13 rfl hl (by decide) rfl (fun ls hl => ?_)
  refine lv_iload_n hx hb dX7_meanAge_14 rfl (lv_at hl 0 rfl) ?_
  refine lv_if_ne (tgt := 20) hx hb dX7_meanAge_15 (by decide) (fun hc15 => ?_) (fun hc15 => ?_)
  · replace hw := hw.1 hc15
    refine lv_iconst (v := 0) hx hb dX7_meanAge_20 (by decide) ?_
    refine lv_istore_n (lv' := [(2, .int 0), (1, .int r_10), (0, .ref (ad 0))]) hx hb dX7_meanAge_21 rfl hl (by decide) rfl (fun ls hl => ?_)
    refine lv_iconst (v := 0) hx hb dX7_meanAge_22 (by decide) ?_
    refine lv_istore_n (lv' := [(3, .int 0), (2, .int 0), (1, .int r_10), (0, .ref (ad 0))]) hx hb dX7_meanAge_23 rfl hl (by decide) rfl (fun ls hl => ?_)
    obtain ⟨n_, hw⟩ := hw
    exact L24 n_ r_10 0 0 M_10 _ _ _ hw hP hS (lv_sub hl [3, 2, 1, 0] rfl)
  · replace hw := hw.2 hc15
    refine lv_dconst0 hx hb dX7_meanAge_18 ?_
    exact W.dret (v := 0) hx hb hr (fun t ht hW => ⟨⟨0, M_10, rfl, hw, by unfold pt_B; rw [ht]; exact hP⟩, hS.F ht⟩) hS.2.2 dX7_meanAge_19
-- ===== X7_digestOfStates
def wjX7_digestOfStates_134 (p1 : Int64) (Q : Int64 → pt_M → Prop) (R24 : Int64 → Int32 → Int32 → pt_M → Prop) (x3 : Int64) (x5 : Int32) (x6 : Int32) (M : pt_M) : Prop :=
  ∀ x6_134 : Int32, x6_134 = x6 + 1 → R24 x3 x5 x6_134 M
def wjX7_digestOfStates_87 (p1 : Int64) (Q : Int64 → pt_M → Prop) (R24 : Int64 → Int32 → Int32 → pt_M → Prop) (x5 : Int32) (x6 : Int32) (xs0 : Int64) (xs1 : Int32) (M : pt_M) : Prop :=
  ∀ x3_89 : Int64, x3_89 = (xs0 + (Int32.toInt64 xs1)) → wpX7_ageOf x6 M (fun (r_98 : Int32) (M_98 : pt_M) => ∀ x3_103 : Int64, x3_103 = ((x3_89 * 31) + (Int32.toInt64 r_98)) → vp_in x6 20 ∧ (wpX5_isMark (pt_s x6) M_98 (fun (r_114 : Int32) (M_114 : pt_M) => (r_114 = 0 → wjX7_digestOfStates_134 p1 Q R24 x3_103 x5 x6 M_114) ∧ (¬ r_114 = 0 → wpX7_record x6 M_114 (fun (r_128 : Int32) (M_128 : pt_M) => ∀ x3_133 : Int64, x3_133 = ((x3_103 * 31) + (Int32.toInt64 r_128)) → wjX7_digestOfStates_134 p1 Q R24 x3_133 x5 x6 M_128)))))
def lbX7_digestOfStates_39 (p1 : Int64) (Q : Int64 → pt_M → Prop) (R24 : Int64 → Int32 → Int32 → pt_M → Prop) (R39 : Int64 → Int32 → Int32 → Int32 → pt_M → Prop) (x3 : Int64) (x5 : Int32) (x6 : Int32) (x7 : Int32) (M : pt_M) : Prop :=
  (4 ≤ x7 → wpX7_has x5 x6 M (fun (r_76 : Int32) (M_76 : pt_M) => (r_76 = 0 → wjX7_digestOfStates_87 p1 Q R24 x5 x6 (x3 * 31) 0 M_76) ∧ (¬ r_76 = 0 → wjX7_digestOfStates_87 p1 Q R24 x5 x6 (x3 * 31) 1 M_76))) ∧ (¬ 4 ≤ x7 → wpX7_ofState x6 x7 M (fun (r_55 : Int32) (M_55 : pt_M) => ∀ x3_60 : Int64, x3_60 = ((x3 * 31) + (Int32.toInt64 r_55)) → ∀ x7_61 : Int32, x7_61 = x7 + 1 → R39 x3_60 x5 x6 x7_61 M_55))
def lpX7_digestOfStates_39 (p1 : Int64) (Q : Int64 → pt_M → Prop) (R24 : Int64 → Int32 → Int32 → pt_M → Prop) : Nat → Int64 → Int32 → Int32 → Int32 → pt_M → Prop
  | 0 => fun _ _ _ _ _ => False
  | n + 1 => fun x3 x5 x6 x7 M => lbX7_digestOfStates_39 p1 Q R24 (lpX7_digestOfStates_39 p1 Q R24 n) x3 x5 x6 x7 M
def lbX7_digestOfStates_24 (p1 : Int64) (Q : Int64 → pt_M → Prop)  (R24 : Int64 → Int32 → Int32 → pt_M → Prop) (x3 : Int64) (x5 : Int32) (x6 : Int32) (M : pt_M) : Prop :=
  ((M 1 3) ≤ x6 → Q x3 M) ∧ (¬ (M 1 3) ≤ x6 → ∃ n : Nat, lpX7_digestOfStates_39 p1 Q R24 n x3 x5 x6 0 M)
def lpX7_digestOfStates_24 (p1 : Int64) (Q : Int64 → pt_M → Prop)  : Nat → Int64 → Int32 → Int32 → pt_M → Prop
  | 0 => fun _ _ _ _ => False
  | n + 1 => fun x3 x5 x6 M => lbX7_digestOfStates_24 p1 Q (lpX7_digestOfStates_24 p1 Q n) x3 x5 x6 M
def wpX7_digestOfStates (p1 : Int64) (M : pt_M) (Q : Int64 → pt_M → Prop) : Prop :=
  wpX1_endedAmong (M (125 + 1) 3) M (fun (r_16 : Int32) (M_16 : pt_M) => ∃ n : Nat, lpX7_digestOfStates_24 p1 Q n p1 r_16 0 M_16)
set_option maxHeartbeats 4000000 in
set_option maxRecDepth 100000 in
theorem mtX7_digestOfStates (l : Launch) (D : va_G) (cA : Nat → ClassId) (ad : Nat → Nat) (hI : pt_I ad) (sz : Nat) (p1 : Int64) (M : pt_M) (Q : Int64 → pt_M → Prop) (hw : wpX7_digestOfStates p1 M Q) : Met l yX7_digestOfStates (Cond.code yX7_digestOfStates cX7_digestOfStates 8 (some .long) :: lw_all) ({ frames := 3, cells := 0, slots := 0, locals := 66 } : Room) (va_Pc [.ref (ad 0), .long p1] (pt_P D cA ad sz M)) (va_Ql Q (pt_B D cA ad) (pt_fr ad sz)) 0 0 (pt_fr ad sz) := by
  refine Met.ofW (cc := cX7_digestOfStates) (maxL := 8) (ret := (some .long)) (by decide) rfl ?_
  intro p e s m args below meth c s₁ B hml hv
  obtain ⟨rfl, hsz, hP, hK⟩ := hv
  have hx := B.exec
  have hb := B.bytes
  have hr := B.returns
  have hts0 := atoms_spec (ws := (Cond.code yX7_digestOfStates cX7_digestOfStates 8 (some .long) :: lw_all)) B.pre
  have hown : s.vm.findClass RX7 = some m.cls := findClass_of_methodNamed B.named
  have hlocks := B.notSynchronized
  subst hsz
  have F : pt_F p m c cX7_digestOfStates 8 s _ RX7 D cA := ⟨⟨hx, hb, hml, hown, fun w h => hts0 w (List.mem_cons_of_mem _ h)⟩, hK⟩
  have hD : ∀ M, va_D (pt_fr ad s.heap.size) (pt_W cA ad M) := pt_D hI (fun k h => Or.inl ⟨k, h, rfl⟩)
  have hS : va_S (pt_fr ad s.heap.size) s.heap s.heap [] := va_S.rf
  have hl := lv_entry ([.ref (ad 0), .long p1]) (n := 8) (Nat.le_of_ble_eq_true rfl)
  rw [lg_entry_eq]
  generalize (lg_sl ([.ref (ad 0), .long p1]) ++ List.replicate (8 - (lg_sl ([.ref (ad 0), .long p1])).length) Slot.unset).toArray = ls at hl ⊢
  have hl : lv_has ls 8 [(0, .ref (ad 0)), (1, .long p1)] := hl
  have L24 : ∀ (n24 : Nat) (x3 : Int64) (x5 : Int32) (x6 : Int32) (M : pt_M) (H : Heap) (locs : List Loc) (ls : Array Slot), lpX7_digestOfStates_24 p1 Q n24 x3 x5 x6 M → va_P D pt_cl (pt_W cA ad M) H → va_S (pt_fr ad s.heap.size) s.heap H locs → lv_has ls 8 [(0, .ref (ad 0)), (3, .long x3), (5, .int x5), (6, .int x6)] → W p l e (headSpec (Cond.code yX7_digestOfStates cX7_digestOfStates 8 (some .long) :: lw_all) ({ frames := 3, cells := 0, slots := 0, locals := 66 } : Room)).room s m ([.ref (ad 0), .long p1] : List Value).toArray below meth c H locs 0 0 (MQ below (va_Ql Q (pt_B D cA ad) (pt_fr ad s.heap.size)) ([.ref (ad 0), .long p1] : List Value).toArray s 0 0 (pt_fr ad s.heap.size)) (F0 m 24 ls []) := by
    intro n24
    induction n24 with
    | zero => intro x3 x5 x6 M H locs ls hw; exact hw.elim
    | succ n24 ih24 =>
      have J134 : ∀ (x3 : Int64) (x5 : Int32) (x6 : Int32) (M : pt_M) (H : Heap) (locs : List Loc) (ls : Array Slot), wjX7_digestOfStates_134 p1 Q (lpX7_digestOfStates_24 p1 Q n24) x3 x5 x6 M → va_P D pt_cl (pt_W cA ad M) H → va_S (pt_fr ad s.heap.size) s.heap H locs → lv_has ls 8 [(0, .ref (ad 0)), (3, .long x3), (5, .int x5), (6, .int x6)] → W p l e (headSpec (Cond.code yX7_digestOfStates cX7_digestOfStates 8 (some .long) :: lw_all) ({ frames := 3, cells := 0, slots := 0, locals := 66 } : Room)).room s m ([.ref (ad 0), .long p1] : List Value).toArray below meth c H locs 0 0 (MQ below (va_Ql Q (pt_B D cA ad) (pt_fr ad s.heap.size)) ([.ref (ad 0), .long p1] : List Value).toArray s 0 0 (pt_fr ad s.heap.size)) (F0 m 134 ls []) := by
        intro x3 x5 x6 M H locs ls hw hP hS hl
        unfold wjX7_digestOfStates_134 at hw
        obtain ⟨x6_134, ex6_134⟩ : ∃ y : Int32, y = x6 + 1 := ⟨_, rfl⟩
        replace hw := hw x6_134 ex6_134
        refine lv_iinc (v := x6_134) (lv' := [(6, .int x6_134), (0, .ref (ad 0)), (3, .long x3), (5, .int x5)]) hx hb dX7_digestOfStates_134 hl (k := 3) rfl (by rw [ex6_134]; rfl) (by decide) rfl (fun ls hl => ?_)
        refine lv_goto (tgt := 24) hx hb dX7_digestOfStates_137 (by decide) ?_
        exact ih24 x3 x5 x6_134 M _ _ _ hw hP hS (lv_sub hl [1, 2, 3, 0] rfl)
      have J87 : ∀ (x5 : Int32) (x6 : Int32) (xs0 : Int64) (xs1 : Int32) (M : pt_M) (H : Heap) (locs : List Loc) (ls : Array Slot), wjX7_digestOfStates_87 p1 Q (lpX7_digestOfStates_24 p1 Q n24) x5 x6 xs0 xs1 M → va_P D pt_cl (pt_W cA ad M) H → va_S (pt_fr ad s.heap.size) s.heap H locs → lv_has ls 8 [(0, .ref (ad 0)), (5, .int x5), (6, .int x6)] → W p l e (headSpec (Cond.code yX7_digestOfStates cX7_digestOfStates 8 (some .long) :: lw_all) ({ frames := 3, cells := 0, slots := 0, locals := 66 } : Room)).room s m ([.ref (ad 0), .long p1] : List Value).toArray below meth c H locs 0 0 (MQ below (va_Ql Q (pt_B D cA ad) (pt_fr ad s.heap.size)) ([.ref (ad 0), .long p1] : List Value).toArray s 0 0 (pt_fr ad s.heap.size)) (F0 m 87 ls [.int xs1, .long xs0]) := by
        intro x5 x6 xs0 xs1 M H locs ls hw hP hS hl
        unfold wjX7_digestOfStates_87 at hw
        refine lv_i2l hx hb dX7_digestOfStates_87 rfl ?_
        refine lv_ladd hx hb dX7_digestOfStates_88 ?_
        refine lv_topl (fun x3_89 ex3_89 => ?_)
        replace hw := hw x3_89 ex3_89
        refine lv_lstore_n (lv' := [(3, .long x3_89), (0, .ref (ad 0)), (5, .int x5), (6, .int x6)]) hx hb dX7_digestOfStates_89 rfl hl (by decide) rfl (fun ls hl => ?_)
        refine lv_lload_n hx hb dX7_digestOfStates_90 rfl (lv_at hl 0 rfl) ?_
        refine lv_ldc2 (v := 31) hx hb hown (F.1.2.2.2.2 _ kw_702) dX7_digestOfStates_91 ?_
        refine lv_lmul hx hb dX7_digestOfStates_94 ?_
        refine lv_aload_n hx hb dX7_digestOfStates_95 rfl (lv_at hl 1 rfl) ?_
        refine lv_iload hx hb dX7_digestOfStates_96 (lv_at hl 3 rfl) ?_
        refine pt_calli (pt_runV (n := 1) (As := [.int x6]) (rest := [.long (x3_89 * 31)]) F hP (pt_c7 _ pt_k0) (pt_l7 pt_k0) rfl (mtX7_ageOf l D cA ad hI _ x6 M _ hw) kw_737 kw_734 kw_26 kw_735 kw_736 ⟨by decide, by decide, by decide +kernel⟩ ⟨rfl, rfl, Nat.le_of_ble_eq_true rfl, Nat.le_of_ble_eq_true rfl⟩ rfl hl.1 rfl (Nat.le_of_ble_eq_true rfl) dX7_digestOfStates_98 ⟨Nat.zero_le _, Nat.zero_le _⟩) hS (fun _ h => h) (fun r_98 M_98 H locs hw hP hS _ _ => ?_)
        refine lv_i2l hx hb dX7_digestOfStates_101 rfl ?_
        refine lv_ladd hx hb dX7_digestOfStates_102 ?_
        refine lv_topl (fun x3_103 ex3_103 => ?_)
        replace hw := hw x3_103 ex3_103
        refine lv_lstore_n (lv' := [(3, .long x3_103), (0, .ref (ad 0)), (5, .int x5), (6, .int x6)]) hx hb dX7_digestOfStates_103 rfl hl (by decide) rfl (fun ls hl => ?_)
        refine lv_aload_n hx hb dX7_digestOfStates_104 rfl (lv_at hl 1 rfl) ?_
        refine pt_get F hP (pt_c7 _ pt_k0) (pt_l7 pt_k0) inX7 rfl 0 (by decide) kw_330 rfl rfl dX7_digestOfStates_105 ?_
        refine pt_get F hP (pt_c1 _ pt_k1) (pt_l1 pt_k1) inX1 rfl 0 (by decide) kw_183 rfl rfl dX7_digestOfStates_108 ?_
        refine lv_iload hx hb dX7_digestOfStates_111 (lv_at hl 3 rfl) ?_
        have hv113 := hw.1
        replace hw := hw.2
        refine pt_alds F hP hv113 dX7_digestOfStates_113 ?_
        refine pt_calli (pt_runV (n := 0) (As := []) (rest := []) F hP (pt_c5 _ (pt_ks hv113)) (pt_l5 (pt_ks hv113)) rfl (mtX5_isMark l D cA ad hI _ (pt_s x6) (pt_ks hv113) M_98 _ hw) kw_529 kw_738 kw_28 kw_527 kw_528 ⟨by decide, by decide, by decide +kernel⟩ ⟨rfl, rfl, Nat.le_of_ble_eq_true rfl, Nat.le_of_ble_eq_true rfl⟩ rfl hl.1 rfl (Nat.le_of_ble_eq_true rfl) dX7_digestOfStates_114 ⟨Nat.zero_le _, Nat.zero_le _⟩) hS (fun _ h => h) (fun r_114 M_114 H locs hw hP hS _ _ => ?_)
        refine lv_if_eq (tgt := 134) hx hb dX7_digestOfStates_117 (by decide) (fun hc117 => ?_) (fun hc117 => ?_)
        · replace hw := hw.1 hc117
          exact J134 x3_103 x5 x6 M_114 _ _ _ hw hP hS (lv_sub hl [1, 0, 2, 3] rfl)
        · replace hw := hw.2 hc117
          refine lv_lload_n hx hb dX7_digestOfStates_120 rfl (lv_at hl 0 rfl) ?_
          refine lv_ldc2 (v := 31) hx hb hown (F.1.2.2.2.2 _ kw_702) dX7_digestOfStates_121 ?_
          refine lv_lmul hx hb dX7_digestOfStates_124 ?_
          refine lv_aload_n hx hb dX7_digestOfStates_125 rfl (lv_at hl 1 rfl) ?_
          refine lv_iload hx hb dX7_digestOfStates_126 (lv_at hl 3 rfl) ?_
          refine pt_calli (pt_runV (n := 1) (As := [.int x6]) (rest := [.long (x3_103 * 31)]) F hP (pt_c7 _ pt_k0) (pt_l7 pt_k0) rfl (mtX7_record l D cA ad hI _ x6 M_114 _ hw) kw_742 kw_739 kw_26 kw_740 kw_741 ⟨by decide, by decide, by decide +kernel⟩ ⟨rfl, rfl, Nat.le_of_ble_eq_true rfl, Nat.le_of_ble_eq_true rfl⟩ rfl hl.1 rfl (Nat.le_of_ble_eq_true rfl) dX7_digestOfStates_128 ⟨Nat.zero_le _, Nat.zero_le _⟩) hS (fun _ h => h) (fun r_128 M_128 H locs hw hP hS _ _ => ?_)
          refine lv_i2l hx hb dX7_digestOfStates_131 rfl ?_
          refine lv_ladd hx hb dX7_digestOfStates_132 ?_
          refine lv_topl (fun x3_133 ex3_133 => ?_)
          replace hw := hw x3_133 ex3_133
          refine lv_lstore_n (lv' := [(3, .long x3_133), (0, .ref (ad 0)), (5, .int x5), (6, .int x6)]) hx hb dX7_digestOfStates_133 rfl hl (by decide) rfl (fun ls hl => ?_)
          exact J134 x3_133 x5 x6 M_128 _ _ _ hw hP hS (lv_sub hl [1, 0, 2, 3] rfl)
      have L39 : ∀ (n39 : Nat) (x3 : Int64) (x5 : Int32) (x6 : Int32) (x7 : Int32) (M : pt_M) (H : Heap) (locs : List Loc) (ls : Array Slot), lpX7_digestOfStates_39 p1 Q (lpX7_digestOfStates_24 p1 Q n24) n39 x3 x5 x6 x7 M → va_P D pt_cl (pt_W cA ad M) H → va_S (pt_fr ad s.heap.size) s.heap H locs → lv_has ls 8 [(0, .ref (ad 0)), (3, .long x3), (5, .int x5), (6, .int x6), (7, .int x7)] → W p l e (headSpec (Cond.code yX7_digestOfStates cX7_digestOfStates 8 (some .long) :: lw_all) ({ frames := 3, cells := 0, slots := 0, locals := 66 } : Room)).room s m ([.ref (ad 0), .long p1] : List Value).toArray below meth c H locs 0 0 (MQ below (va_Ql Q (pt_B D cA ad) (pt_fr ad s.heap.size)) ([.ref (ad 0), .long p1] : List Value).toArray s 0 0 (pt_fr ad s.heap.size)) (F0 m 39 ls []) := by
        intro n39
        induction n39 with
        | zero => intro x3 x5 x6 x7 M H locs ls hw; exact hw.elim
        | succ n39 ih39 =>
          intro x3 x5 x6 x7 M H locs ls hw hP hS hl
          replace hw : lbX7_digestOfStates_39 p1 Q (lpX7_digestOfStates_24 p1 Q n24) (lpX7_digestOfStates_39 p1 Q (lpX7_digestOfStates_24 p1 Q n24) n39) x3 x5 x6 x7 M := hw
          unfold lbX7_digestOfStates_39 at hw
          refine lv_iload hx hb dX7_digestOfStates_39 (lv_at hl 4 rfl) ?_
          refine lv_iconst (v := 4) hx hb dX7_digestOfStates_41 (by decide) ?_
          refine lv_icmp_ge (tgt := 67) hx hb dX7_digestOfStates_42 (by decide) (fun hc42 => ?_) (fun hc42 => ?_)
          · replace hw := hw.1 hc42
            refine lv_lload_n hx hb dX7_digestOfStates_67 rfl (lv_at hl 1 rfl) ?_
            refine lv_ldc2 (v := 31) hx hb hown (F.1.2.2.2.2 _ kw_702) dX7_digestOfStates_68 ?_
            refine lv_lmul hx hb dX7_digestOfStates_71 ?_
            refine lv_iload hx hb dX7_digestOfStates_72 (lv_at hl 2 rfl) ?_
            refine lv_iload hx hb dX7_digestOfStates_74 (lv_at hl 3 rfl) ?_
            refine pt_calli (pt_runS (n := 2) (As := [.int x5, .int x6]) (rest := [.long (x3 * 31)]) F hP (mtX7_has l D cA ad hI _ x5 x6 M _ hw) kw_436 kw_622 kw_26 kw_435 ⟨by decide, by decide, by decide +kernel⟩ ⟨rfl, rfl, Nat.le_of_ble_eq_true rfl, Nat.le_of_ble_eq_true rfl⟩ rfl hl.1 rfl (Nat.le_of_ble_eq_true rfl) dX7_digestOfStates_76 ⟨Nat.zero_le _, Nat.zero_le _⟩) hS (fun _ h => h) (fun r_76 M_76 H locs hw hP hS _ _ => ?_)
            refine lv_if_eq (tgt := 86) hx hb dX7_digestOfStates_79 (by decide) (fun hc79 => ?_) (fun hc79 => ?_)
            · replace hw := hw.1 hc79
              refine lv_iconst (v := 0) hx hb dX7_digestOfStates_86 (by decide) ?_
              exact J87 x5 x6 (x3 * 31) 0 M_76 _ _ _ hw hP hS (lv_sub hl [0, 2, 3] rfl)
            · replace hw := hw.2 hc79
              refine lv_iconst (v := 1) hx hb dX7_digestOfStates_82 (by decide) ?_
              refine lv_goto (tgt := 87) hx hb dX7_digestOfStates_83 (by decide) ?_
              exact J87 x5 x6 (x3 * 31) 1 M_76 _ _ _ hw hP hS (lv_sub hl [0, 2, 3] rfl)
          · replace hw := hw.2 hc42
            refine lv_lload_n hx hb dX7_digestOfStates_45 rfl (lv_at hl 1 rfl) ?_
            refine lv_ldc2 (v := 31) hx hb hown (F.1.2.2.2.2 _ kw_702) dX7_digestOfStates_46 ?_
            refine lv_lmul hx hb dX7_digestOfStates_49 ?_
            refine lv_aload_n hx hb dX7_digestOfStates_50 rfl (lv_at hl 0 rfl) ?_
            refine lv_iload hx hb dX7_digestOfStates_51 (lv_at hl 3 rfl) ?_
            refine lv_iload hx hb dX7_digestOfStates_53 (lv_at hl 4 rfl) ?_
            refine pt_calli (pt_runV (n := 2) (As := [.int x6, .int x7]) (rest := [.long (x3 * 31)]) F hP (pt_c7 _ pt_k0) (pt_l7 pt_k0) rfl (mtX7_ofState l D cA ad hI _ x6 x7 M _ hw) kw_732 kw_729 kw_26 kw_730 kw_731 ⟨by decide, by decide, by decide +kernel⟩ ⟨rfl, rfl, Nat.le_of_ble_eq_true rfl, Nat.le_of_ble_eq_true rfl⟩ rfl hl.1 rfl (Nat.le_of_ble_eq_true rfl) dX7_digestOfStates_55 ⟨Nat.zero_le _, Nat.zero_le _⟩) hS (fun _ h => h) (fun r_55 M_55 H locs hw hP hS _ _ => ?_)
            refine lv_i2l hx hb dX7_digestOfStates_58 rfl ?_
            refine lv_ladd hx hb dX7_digestOfStates_59 ?_
            refine lv_topl (fun x3_60 ex3_60 => ?_)
            replace hw := hw x3_60 ex3_60
            refine lv_lstore_n (lv' := [(3, .long x3_60), (0, .ref (ad 0)), (5, .int x5), (6, .int x6), (7, .int x7)]) hx hb dX7_digestOfStates_60 rfl hl (by decide) rfl (fun ls hl => ?_)
            obtain ⟨x7_61, ex7_61⟩ : ∃ y : Int32, y = x7 + 1 := ⟨_, rfl⟩
            replace hw := hw x7_61 ex7_61
            refine lv_iinc (v := x7_61) (lv' := [(7, .int x7_61), (3, .long x3_60), (0, .ref (ad 0)), (5, .int x5), (6, .int x6)]) hx hb dX7_digestOfStates_61 hl (k := 4) rfl (by rw [ex7_61]; rfl) (by decide) rfl (fun ls hl => ?_)
            refine lv_goto (tgt := 39) hx hb dX7_digestOfStates_64 (by decide) ?_
            exact ih39 x3_60 x5 x6 x7_61 M_55 _ _ _ hw hP hS (lv_sub hl [2, 1, 3, 4, 0] rfl)
      intro x3 x5 x6 M H locs ls hw hP hS hl
      replace hw : lbX7_digestOfStates_24 p1 Q (lpX7_digestOfStates_24 p1 Q n24) x3 x5 x6 M := hw
      unfold lbX7_digestOfStates_24 at hw
      refine lv_iload hx hb dX7_digestOfStates_24 (lv_at hl 3 rfl) ?_
      refine lv_aload_n hx hb dX7_digestOfStates_26 rfl (lv_at hl 0 rfl) ?_
      refine pt_get F hP (pt_c7 _ pt_k0) (pt_l7 pt_k0) inX7 rfl 0 (by decide) kw_330 rfl rfl dX7_digestOfStates_27 ?_
      refine pt_get F hP (pt_c1 _ pt_k1) (pt_l1 pt_k1) inX1 rfl 3 (by decide) kw_191 rfl rfl dX7_digestOfStates_30 ?_
      refine lv_icmp_ge (tgt := 140) hx hb dX7_digestOfStates_33 (by decide) (fun hc33 => ?_) (fun hc33 => ?_)
      · replace hw := hw.1 hc33
        refine lv_lload_n hx hb dX7_digestOfStates_140 rfl (lv_at hl 1 rfl) ?_
        exact W.lret (v := x3) hx hb hr (fun t ht hW => ⟨⟨x3, M, rfl, hw, by unfold pt_B; rw [ht]; exact hP⟩, hS.F ht⟩) hS.2.2 dX7_digestOfStates_141
      · replace hw := hw.2 hc33
        refine lv_iconst (v := 0) hx hb dX7_digestOfStates_36 (by decide) ?_
        refine lv_istore (lv' := [(7, .int 0), (0, .ref (ad 0)), (3, .long x3), (5, .int x5), (6, .int x6)]) hx hb dX7_digestOfStates_37 hl (by decide) rfl (fun ls hl => ?_)
        obtain ⟨n_, hw⟩ := hw
        exact L39 n_ x3 x5 x6 0 M _ _ _ hw hP hS (lv_sub hl [1, 2, 3, 4, 0] rfl)
  unfold wpX7_digestOfStates at hw
  refine lv_lload_n hx hb dX7_digestOfStates_0 rfl (lv_at hl 1 rfl) ?_
  refine lv_lstore_n (lv' := [(3, .long p1), (0, .ref (ad 0)), (1, .long p1)]) hx hb dX7_digestOfStates_1 rfl hl (by decide) rfl (fun ls hl => ?_)
  refine lv_aload_n hx hb dX7_digestOfStates_2 rfl (lv_at hl 1 rfl) ?_
  refine pt_get F hP (pt_c7 _ pt_k0) (pt_l7 pt_k0) inX7 rfl 0 (by decide) kw_330 rfl rfl dX7_digestOfStates_3 ?_
  refine lv_aload_n hx hb dX7_digestOfStates_6 rfl (lv_at hl 1 rfl) ?_
  refine pt_get F hP (pt_c7 _ pt_k0) (pt_l7 pt_k0) inX7 rfl 1 (by decide) kw_331 rfl rfl dX7_digestOfStates_7 ?_
  refine pt_get F hP (pt_c3 _ pt_k125) (pt_l3 pt_k125) inX3 rfl 1 (by decide) kw_252 rfl rfl dX7_digestOfStates_10 ?_
  refine pt_get F hP (pt_c4 _ (pt_3s pt_k125)) (pt_l4 (pt_3s pt_k125)) inX4 rfl 3 (by decide) kw_239 rfl rfl dX7_digestOfStates_13 ?_
  refine pt_calli (pt_runV (n := 1) (As := [.int (M (125 + 1) 3)]) (rest := []) F hP (pt_c1 _ pt_k1) (pt_l1 pt_k1) rfl (mtX1_endedAmong l D cA ad hI _ (M (125 + 1) 3) M _ hw) kw_488 kw_621 kw_27 kw_486 kw_487 ⟨by decide, by decide, by decide +kernel⟩ ⟨rfl, rfl, Nat.le_of_ble_eq_true rfl, Nat.le_of_ble_eq_true rfl⟩ rfl hl.1 rfl (Nat.le_of_ble_eq_true rfl) dX7_digestOfStates_16 ⟨Nat.zero_le _, Nat.zero_le _⟩) hS (fun _ h => h) (fun r_16 M_16 H locs hw hP hS _ _ => ?_)
  refine lv_istore (lv' := [(5, .int r_16), (3, .long p1), (0, .ref (ad 0)), (1, .long p1)]) hx hb dX7_digestOfStates_19 hl (by decide) rfl (fun ls hl => ?_)
  refine lv_iconst (v := 0) hx hb dX7_digestOfStates_21 (by decide) ?_
  refine lv_istore (lv' := [(6, .int 0), (5, .int r_16), (3, .long p1), (0, .ref (ad 0)), (1, .long p1)]) hx hb dX7_digestOfStates_22 hl (by decide) rfl (fun ls hl => ?_)
  obtain ⟨n_, hw⟩ := hw
  exact L24 n_ p1 r_16 0 M_16 _ _ _ hw hP hS (lv_sub hl [3, 2, 1, 0] rfl)
