-- ===== X12_variable
def wjX12_variable_35 (p1 : Int32) (Q : Int32 → pt_M → Prop)  (xs0 : Int32) (M : pt_M) : Prop :=
  Q xs0 M
def wjX12_variable_15 (p1 : Int32) (Q : Int32 → pt_M → Prop)  (xs1 : Int32) (M : pt_M) : Prop :=
  wpX12_start xs1 1 M (fun (r_16 : Int32) (M_16 : pt_M) => (r_16 = 0 → vp_in p1 4 ∧ (wjX12_variable_35 p1 Q (M_16 9 (Int32.toNatClampNeg p1)) M_16)) ∧ (¬ r_16 = 0 → wjX12_variable_35 p1 Q 0 M_16))
def wpX12_variable (p1 : Int32) (M : pt_M) (Q : Int32 → pt_M → Prop) : Prop :=
  wpX12_isIn p1 0 3 M (fun (r_4 : Int32) (M_4 : pt_M) => (¬ r_4 = 0 → wjX12_variable_15 p1 Q 0 M_4) ∧ (r_4 = 0 → wjX12_variable_15 p1 Q 1 M_4))
set_option maxHeartbeats 4000000 in
set_option maxRecDepth 100000 in
theorem mtX12_variable (l : Launch) (D : va_G) (cA : Nat → ClassId) (ad : Nat → Nat) (hI : rt_I ad) (sz : Nat) (p1 : Int32) (M : pt_M) (Q : Int32 → pt_M → Prop) (hw : wpX12_variable p1 M Q) : Met l yX12_variable (Cond.code yX12_variable cX12_variable 2 (some .int) :: lw_all) ({ frames := 2, cells := 0, slots := 0, locals := 44 } : Room) (va_Pc [.ref (ad 0), .int p1] (rt_P D cA ad sz M)) (va_Qi Q (rt_B D cA ad) (rt_fr ad sz)) 0 0 (rt_fr ad sz) := by
  refine Met.ofW (cc := cX12_variable) (maxL := 2) (ret := (some .int)) (by decide) rfl ?_
  intro p e s m args below meth c s₁ B hml hv
  obtain ⟨rfl, hsz, hP, hK, hN⟩ := hv
  have hx := B.exec
  have hb := B.bytes
  have hr := B.returns
  have hts0 := atoms_spec (ws := (Cond.code yX12_variable cX12_variable 2 (some .int) :: lw_all)) B.pre
  have hown : s.vm.findClass RX12 = some m.cls := findClass_of_methodNamed B.named
  have hlocks := B.notSynchronized
  subst hsz
  have F : pt_F p m c cX12_variable 2 s _ RX12 D cA := ⟨⟨hx, hb, hml, hown, fun w h => hts0 w (List.mem_cons_of_mem _ h)⟩, hK⟩
  have hD : ∀ M, va_D (rt_fr ad s.heap.size) (rt_W cA ad M) := rt_D hI (fun k h => Or.inl ⟨k, h, rfl⟩)
  have hS : va_S (rt_fr ad s.heap.size) s.heap s.heap [] := va_S.rf
  have hl := lv_entry ([.ref (ad 0), .int p1]) (n := 2) (Nat.le_of_ble_eq_true rfl)
  rw [lg_entry_eq]
  generalize (lg_sl ([.ref (ad 0), .int p1]) ++ List.replicate (2 - (lg_sl ([.ref (ad 0), .int p1])).length) Slot.unset).toArray = ls at hl ⊢
  have hl : lv_has ls 2 [(0, .ref (ad 0)), (1, .int p1)] := hl
  have J35 : ∀ (xs0 : Int32) (M : pt_M) (H : Heap) (locs : List Loc) (ls : Array Slot), wjX12_variable_35 p1 Q xs0 M → va_P D pt_cl (rt_W cA ad M) H → va_S (rt_fr ad s.heap.size) s.heap H locs → lv_has ls 2 [] → W p l e (headSpec (Cond.code yX12_variable cX12_variable 2 (some .int) :: lw_all) ({ frames := 2, cells := 0, slots := 0, locals := 44 } : Room)).room s m ([.ref (ad 0), .int p1] : List Value).toArray below meth c H locs 0 0 (MQ below (va_Qi Q (rt_B D cA ad) (rt_fr ad s.heap.size)) ([.ref (ad 0), .int p1] : List Value).toArray s 0 0 (rt_fr ad s.heap.size)) (F0 m 35 ls [.int xs0]) := by
    intro xs0 M H locs ls hw hP hS hl
    unfold wjX12_variable_35 at hw
    exact W.iret (v := xs0) hx hb hr (fun t ht hW => ⟨⟨xs0, M, rfl, hw, by unfold rt_B; rw [ht]; exact hP⟩, hS.F ht⟩) hS.2.2 dX12_variable_35
  have J15 : ∀ (xs1 : Int32) (M : pt_M) (H : Heap) (locs : List Loc) (ls : Array Slot), wjX12_variable_15 p1 Q xs1 M → va_P D pt_cl (rt_W cA ad M) H → va_S (rt_fr ad s.heap.size) s.heap H locs → lv_has ls 2 [(0, .ref (ad 0)), (1, .int p1)] → W p l e (headSpec (Cond.code yX12_variable cX12_variable 2 (some .int) :: lw_all) ({ frames := 2, cells := 0, slots := 0, locals := 44 } : Room)).room s m ([.ref (ad 0), .int p1] : List Value).toArray below meth c H locs 0 0 (MQ below (va_Qi Q (rt_B D cA ad) (rt_fr ad s.heap.size)) ([.ref (ad 0), .int p1] : List Value).toArray s 0 0 (rt_fr ad s.heap.size)) (F0 m 15 ls [.int xs1, .ref (ad 0)]) := by
    intro xs1 M H locs ls hw hP hS hl
    unfold wjX12_variable_15 at hw
    refine lv_iconst (v := 1) hx hb dX12_variable_15 (by decide) ?_
    refine rt_calli (rt_runV (n := 2) (As := [.int xs1, .int 1]) (rest := []) F hP hN hS (rt_frs hS.1) (rt_c12 _ rt_k0) (rt_l12 rt_k0) rfl (mtX12_start l D cA ad hI _ xs1 1 M _ hw) kw_1171 kw_1168 kw_60 kw_1170 kw_28 ⟨by decide, by decide, by decide +kernel⟩ ⟨rfl, rfl, Nat.le_of_ble_eq_true rfl, Nat.le_of_ble_eq_true rfl⟩ rfl hl.1 rfl (Nat.le_of_ble_eq_true rfl) dX12_variable_16 ⟨Nat.zero_le _, Nat.zero_le _⟩) hS (fun _ h => h) (fun r_16 M_16 H locs hw hP hS _ _ => ?_)
    refine lv_if_eq (tgt := 26) hx hb dX12_variable_19 (by decide) (fun hc19 => ?_) (fun hc19 => ?_)
    · replace hw := hw.1 hc19
      refine lv_aload_n hx hb dX12_variable_26 rfl (lv_at hl 0 rfl) ?_
      refine rt_get F hP (rt_c12 _ rt_k0) (rt_l12 rt_k0) inX12 rfl 2 (by decide) kw_1142 rfl rfl dX12_variable_27 ?_
      refine rt_get F hP (rt_c9 _ rt_k6) (rt_l9 rt_k6) inX9 rfl 4 (by decide) kw_1012 rfl rfl dX12_variable_30 ?_
      refine lv_iload_n hx hb dX12_variable_33 rfl (lv_at hl 1 rfl) ?_
      have hv34 := hw.1
      replace hw := hw.2
      refine rt_iald F hP rt_a9 hv34 dX12_variable_34 ?_
      exact J35 (M_16 9 (Int32.toNatClampNeg p1)) M_16 _ _ _ hw hP hS (lv_sub hl [] rfl)
    · replace hw := hw.2 hc19
      refine lv_iconst (v := 0) hx hb dX12_variable_22 (by decide) ?_
      refine lv_goto (tgt := 35) hx hb dX12_variable_23 (by decide) ?_
      exact J35 0 M_16 _ _ _ hw hP hS (lv_sub hl [] rfl)
  unfold wpX12_variable at hw
  refine lv_aload_n hx hb dX12_variable_0 rfl (lv_at hl 0 rfl) ?_
  refine lv_iload_n hx hb dX12_variable_1 rfl (lv_at hl 1 rfl) ?_
  refine lv_iconst (v := 0) hx hb dX12_variable_2 (by decide) ?_
  refine lv_iconst (v := 3) hx hb dX12_variable_3 (by decide) ?_
  refine rt_calli (rt_runS (n := 3) (As := [.int p1, .int 0, .int 3]) (rest := [.ref (ad 0)]) F hP hN hS (rt_frs hS.1) (mtX12_isIn l D cA ad hI _ p1 0 3 M _ hw) kw_1182 kw_1180 kw_60 kw_1181 ⟨by decide, by decide, by decide +kernel⟩ ⟨rfl, rfl, Nat.le_of_ble_eq_true rfl, Nat.le_of_ble_eq_true rfl⟩ rfl hl.1 rfl (Nat.le_of_ble_eq_true rfl) dX12_variable_4 ⟨Nat.zero_le _, Nat.zero_le _⟩) hS (fun _ h => h) (fun r_4 M_4 H locs hw hP hS _ _ => ?_)
  refine lv_if_ne (tgt := 14) hx hb dX12_variable_7 (by decide) (fun hc7 => ?_) (fun hc7 => ?_)
  · replace hw := hw.1 hc7
    refine lv_iconst (v := 0) hx hb dX12_variable_14 (by decide) ?_
    exact J15 0 M_4 _ _ _ hw hP hS (lv_sub hl [0, 1] rfl)
  · replace hw := hw.2 hc7
    refine lv_iconst (v := 1) hx hb dX12_variable_10 (by decide) ?_
    refine lv_goto (tgt := 15) hx hb dX12_variable_11 (by decide) ?_
    exact J15 1 M_4 _ _ _ hw hP hS (lv_sub hl [0, 1] rfl)
-- ===== X12_clock
def wpX12_clock  (M : pt_M) (Q : Int32 → pt_M → Prop) : Prop :=
  wpX12_plain (M 6 7) M (fun (r_8 : Int32) (M_8 : pt_M) => Q r_8 M_8)
set_option maxHeartbeats 4000000 in
set_option maxRecDepth 100000 in
theorem mtX12_clock (l : Launch) (D : va_G) (cA : Nat → ClassId) (ad : Nat → Nat) (hI : rt_I ad) (sz : Nat) (M : pt_M) (Q : Int32 → pt_M → Prop) (hw : wpX12_clock M Q) : Met l yX12_clock (Cond.code yX12_clock cX12_clock 1 (some .int) :: lw_all) ({ frames := 1, cells := 0, slots := 0, locals := 21 } : Room) (va_Pc [.ref (ad 0)] (rt_P D cA ad sz M)) (va_Qi Q (rt_B D cA ad) (rt_fr ad sz)) 0 0 (rt_fr ad sz) := by
  refine Met.ofW (cc := cX12_clock) (maxL := 1) (ret := (some .int)) (by decide) rfl ?_
  intro p e s m args below meth c s₁ B hml hv
  obtain ⟨rfl, hsz, hP, hK, hN⟩ := hv
  have hx := B.exec
  have hb := B.bytes
  have hr := B.returns
  have hts0 := atoms_spec (ws := (Cond.code yX12_clock cX12_clock 1 (some .int) :: lw_all)) B.pre
  have hown : s.vm.findClass RX12 = some m.cls := findClass_of_methodNamed B.named
  have hlocks := B.notSynchronized
  subst hsz
  have F : pt_F p m c cX12_clock 1 s _ RX12 D cA := ⟨⟨hx, hb, hml, hown, fun w h => hts0 w (List.mem_cons_of_mem _ h)⟩, hK⟩
  have hD : ∀ M, va_D (rt_fr ad s.heap.size) (rt_W cA ad M) := rt_D hI (fun k h => Or.inl ⟨k, h, rfl⟩)
  have hS : va_S (rt_fr ad s.heap.size) s.heap s.heap [] := va_S.rf
  have hl := lv_entry ([.ref (ad 0)]) (n := 1) (Nat.le_of_ble_eq_true rfl)
  rw [lg_entry_eq]
  generalize (lg_sl ([.ref (ad 0)]) ++ List.replicate (1 - (lg_sl ([.ref (ad 0)])).length) Slot.unset).toArray = ls at hl ⊢
  have hl : lv_has ls 1 [(0, .ref (ad 0))] := hl
  unfold wpX12_clock at hw
  refine lv_aload_n hx hb dX12_clock_0 rfl (lv_at hl 0 rfl) ?_
  refine lv_aload_n hx hb dX12_clock_1 rfl (lv_at hl 0 rfl) ?_
  refine rt_get F hP (rt_c12 _ rt_k0) (rt_l12 rt_k0) inX12 rfl 2 (by decide) kw_1142 rfl rfl dX12_clock_2 ?_
  refine rt_get F hP (rt_c9 _ rt_k6) (rt_l9 rt_k6) inX9 rfl 7 (by decide) kw_1017 rfl rfl dX12_clock_5 ?_
  refine rt_calli (rt_runV (n := 1) (As := [.int (M 6 7)]) (rest := []) F hP hN hS (rt_frs hS.1) (rt_c12 _ rt_k0) (rt_l12 rt_k0) rfl (mtX12_plain l D cA ad hI _ (M 6 7) M _ hw) kw_1469 kw_1466 kw_60 kw_1468 kw_44 ⟨by decide, by decide, by decide +kernel⟩ ⟨rfl, rfl, Nat.le_of_ble_eq_true rfl, Nat.le_of_ble_eq_true rfl⟩ rfl hl.1 rfl (Nat.le_of_ble_eq_true rfl) dX12_clock_8 ⟨Nat.zero_le _, Nat.zero_le _⟩) hS (fun _ h => h) (fun r_8 M_8 H locs hw hP hS _ _ => ?_)
  exact W.iret (v := r_8) hx hb hr (fun t ht hW => ⟨⟨r_8, M_8, rfl, hw, by unfold rt_B; rw [ht]; exact hP⟩, hS.F ht⟩) hS.2.2 dX12_clock_11
-- ===== X12_fired
def wjX12_fired_26 (p1 : Int32) (Q : Int32 → pt_M → Prop)  (xs0 : Int32) (M : pt_M) : Prop :=
  Q xs0 M
def wpX12_fired (p1 : Int32) (M : pt_M) (Q : Int32 → pt_M → Prop) : Prop :=
  wpX12_isNoTransition p1 M (fun (r_3 : Int32) (M_3 : pt_M) => wpX12_start r_3 1 M_3 (fun (r_7 : Int32) (M_7 : pt_M) => (r_7 = 0 → vp_in p1 30 ∧ (wjX12_fired_26 p1 Q (M_7 10 (Int32.toNatClampNeg p1)) M_7)) ∧ (¬ r_7 = 0 → wjX12_fired_26 p1 Q 0 M_7)))
set_option maxHeartbeats 4000000 in
set_option maxRecDepth 100000 in
theorem mtX12_fired (l : Launch) (D : va_G) (cA : Nat → ClassId) (ad : Nat → Nat) (hI : rt_I ad) (sz : Nat) (p1 : Int32) (M : pt_M) (Q : Int32 → pt_M → Prop) (hw : wpX12_fired p1 M Q) : Met l yX12_fired (Cond.code yX12_fired cX12_fired 2 (some .int) :: lw_all) ({ frames := 2, cells := 0, slots := 0, locals := 44 } : Room) (va_Pc [.ref (ad 0), .int p1] (rt_P D cA ad sz M)) (va_Qi Q (rt_B D cA ad) (rt_fr ad sz)) 0 0 (rt_fr ad sz) := by
  refine Met.ofW (cc := cX12_fired) (maxL := 2) (ret := (some .int)) (by decide) rfl ?_
  intro p e s m args below meth c s₁ B hml hv
  obtain ⟨rfl, hsz, hP, hK, hN⟩ := hv
  have hx := B.exec
  have hb := B.bytes
  have hr := B.returns
  have hts0 := atoms_spec (ws := (Cond.code yX12_fired cX12_fired 2 (some .int) :: lw_all)) B.pre
  have hown : s.vm.findClass RX12 = some m.cls := findClass_of_methodNamed B.named
  have hlocks := B.notSynchronized
  subst hsz
  have F : pt_F p m c cX12_fired 2 s _ RX12 D cA := ⟨⟨hx, hb, hml, hown, fun w h => hts0 w (List.mem_cons_of_mem _ h)⟩, hK⟩
  have hD : ∀ M, va_D (rt_fr ad s.heap.size) (rt_W cA ad M) := rt_D hI (fun k h => Or.inl ⟨k, h, rfl⟩)
  have hS : va_S (rt_fr ad s.heap.size) s.heap s.heap [] := va_S.rf
  have hl := lv_entry ([.ref (ad 0), .int p1]) (n := 2) (Nat.le_of_ble_eq_true rfl)
  rw [lg_entry_eq]
  generalize (lg_sl ([.ref (ad 0), .int p1]) ++ List.replicate (2 - (lg_sl ([.ref (ad 0), .int p1])).length) Slot.unset).toArray = ls at hl ⊢
  have hl : lv_has ls 2 [(0, .ref (ad 0)), (1, .int p1)] := hl
  have J26 : ∀ (xs0 : Int32) (M : pt_M) (H : Heap) (locs : List Loc) (ls : Array Slot), wjX12_fired_26 p1 Q xs0 M → va_P D pt_cl (rt_W cA ad M) H → va_S (rt_fr ad s.heap.size) s.heap H locs → lv_has ls 2 [] → W p l e (headSpec (Cond.code yX12_fired cX12_fired 2 (some .int) :: lw_all) ({ frames := 2, cells := 0, slots := 0, locals := 44 } : Room)).room s m ([.ref (ad 0), .int p1] : List Value).toArray below meth c H locs 0 0 (MQ below (va_Qi Q (rt_B D cA ad) (rt_fr ad s.heap.size)) ([.ref (ad 0), .int p1] : List Value).toArray s 0 0 (rt_fr ad s.heap.size)) (F0 m 26 ls [.int xs0]) := by
    intro xs0 M H locs ls hw hP hS hl
    unfold wjX12_fired_26 at hw
    exact W.iret (v := xs0) hx hb hr (fun t ht hW => ⟨⟨xs0, M, rfl, hw, by unfold rt_B; rw [ht]; exact hP⟩, hS.F ht⟩) hS.2.2 dX12_fired_26
  unfold wpX12_fired at hw
  refine lv_aload_n hx hb dX12_fired_0 rfl (lv_at hl 0 rfl) ?_
  refine lv_aload_n hx hb dX12_fired_1 rfl (lv_at hl 0 rfl) ?_
  refine lv_iload_n hx hb dX12_fired_2 rfl (lv_at hl 1 rfl) ?_
  refine rt_calli (rt_runV (n := 1) (As := [.int p1]) (rest := [.ref (ad 0)]) F hP hN hS (rt_frs hS.1) (rt_c12 _ rt_k0) (rt_l12 rt_k0) rfl (mtX12_isNoTransition l D cA ad hI _ p1 M _ hw) kw_1292 kw_1289 kw_60 kw_1291 kw_31 ⟨by decide, by decide, by decide +kernel⟩ ⟨rfl, rfl, Nat.le_of_ble_eq_true rfl, Nat.le_of_ble_eq_true rfl⟩ rfl hl.1 rfl (Nat.le_of_ble_eq_true rfl) dX12_fired_3 ⟨Nat.zero_le _, Nat.zero_le _⟩) hS (fun _ h => h) (fun r_3 M_3 H locs hw hP hS _ _ => ?_)
  refine lv_iconst (v := 1) hx hb dX12_fired_6 (by decide) ?_
  refine rt_calli (rt_runV (n := 2) (As := [.int r_3, .int 1]) (rest := []) F hP hN hS (rt_frs hS.1) (rt_c12 _ rt_k0) (rt_l12 rt_k0) rfl (mtX12_start l D cA ad hI _ r_3 1 M_3 _ hw) kw_1171 kw_1168 kw_60 kw_1170 kw_28 ⟨by decide, by decide, by decide +kernel⟩ ⟨rfl, rfl, Nat.le_of_ble_eq_true rfl, Nat.le_of_ble_eq_true rfl⟩ rfl hl.1 rfl (Nat.le_of_ble_eq_true rfl) dX12_fired_7 ⟨Nat.zero_le _, Nat.zero_le _⟩) hS (fun _ h => h) (fun r_7 M_7 H locs hw hP hS _ _ => ?_)
  refine lv_if_eq (tgt := 17) hx hb dX12_fired_10 (by decide) (fun hc10 => ?_) (fun hc10 => ?_)
  · replace hw := hw.1 hc10
    refine lv_aload_n hx hb dX12_fired_17 rfl (lv_at hl 0 rfl) ?_
    refine rt_get F hP (rt_c12 _ rt_k0) (rt_l12 rt_k0) inX12 rfl 2 (by decide) kw_1142 rfl rfl dX12_fired_18 ?_
    refine rt_get F hP (rt_c9 _ rt_k6) (rt_l9 rt_k6) inX9 rfl 5 (by decide) kw_1014 rfl rfl dX12_fired_21 ?_
    refine lv_iload_n hx hb dX12_fired_24 rfl (lv_at hl 1 rfl) ?_
    have hv25 := hw.1
    replace hw := hw.2
    refine rt_iald F hP rt_a10 hv25 dX12_fired_25 ?_
    exact J26 (M_7 10 (Int32.toNatClampNeg p1)) M_7 _ _ _ hw hP hS (lv_sub hl [] rfl)
  · replace hw := hw.2 hc10
    refine lv_iconst (v := 0) hx hb dX12_fired_13 (by decide) ?_
    refine lv_goto (tgt := 26) hx hb dX12_fired_14 (by decide) ?_
    exact J26 0 M_7 _ _ _ hw hP hS (lv_sub hl [] rfl)
-- ===== X12_covers
def wjX12_covers_28  (Q : Int32 → pt_M → Prop) (R4 : Int32 → Int32 → pt_M → Prop) (x2 : Int32) (xs0 : Int32) (xs1 : Int32) (M : pt_M) : Prop :=
  ∀ x1_29 : Int32, x1_29 = (xs0 + xs1) → ∀ x2_30 : Int32, x2_30 = x2 + 1 → R4 x1_29 x2_30 M
def lbX12_covers_4  (Q : Int32 → pt_M → Prop)  (R4 : Int32 → Int32 → pt_M → Prop) (x1 : Int32) (x2 : Int32) (M : pt_M) : Prop :=
  (30 ≤ x2 → Q x1 M) ∧ (¬ 30 ≤ x2 → vp_in x2 30 ∧ (((M 10 (Int32.toNatClampNeg x2)) ≤ 0 → wjX12_covers_28 Q R4 x2 x1 0 M) ∧ (¬ (M 10 (Int32.toNatClampNeg x2)) ≤ 0 → wjX12_covers_28 Q R4 x2 x1 1 M)))
def lpX12_covers_4  (Q : Int32 → pt_M → Prop)  : Nat → Int32 → Int32 → pt_M → Prop
  | 0 => fun _ _ _ => False
  | n + 1 => fun x1 x2 M => lbX12_covers_4 Q (lpX12_covers_4 Q n) x1 x2 M
def wpX12_covers  (M : pt_M) (Q : Int32 → pt_M → Prop) : Prop :=
  ∃ n : Nat, lpX12_covers_4 Q n 0 0 M
set_option maxHeartbeats 4000000 in
set_option maxRecDepth 100000 in
theorem mtX12_covers (l : Launch) (D : va_G) (cA : Nat → ClassId) (ad : Nat → Nat) (hI : rt_I ad) (sz : Nat) (M : pt_M) (Q : Int32 → pt_M → Prop) (hw : wpX12_covers M Q) : Met l yX12_covers (Cond.code yX12_covers cX12_covers 3 (some .int) :: lw_all) ({ frames := 0, cells := 0, slots := 0, locals := 0 } : Room) (va_Pc [.ref (ad 0)] (rt_P D cA ad sz M)) (va_Qi Q (rt_B D cA ad) (rt_fr ad sz)) 0 0 (rt_fr ad sz) := by
  refine Met.ofW (cc := cX12_covers) (maxL := 3) (ret := (some .int)) (by decide) rfl ?_
  intro p e s m args below meth c s₁ B hml hv
  obtain ⟨rfl, hsz, hP, hK, hN⟩ := hv
  have hx := B.exec
  have hb := B.bytes
  have hr := B.returns
  have hts0 := atoms_spec (ws := (Cond.code yX12_covers cX12_covers 3 (some .int) :: lw_all)) B.pre
  have hown : s.vm.findClass RX12 = some m.cls := findClass_of_methodNamed B.named
  have hlocks := B.notSynchronized
  subst hsz
  have F : pt_F p m c cX12_covers 3 s _ RX12 D cA := ⟨⟨hx, hb, hml, hown, fun w h => hts0 w (List.mem_cons_of_mem _ h)⟩, hK⟩
  have hD : ∀ M, va_D (rt_fr ad s.heap.size) (rt_W cA ad M) := rt_D hI (fun k h => Or.inl ⟨k, h, rfl⟩)
  have hS : va_S (rt_fr ad s.heap.size) s.heap s.heap [] := va_S.rf
  have hl := lv_entry ([.ref (ad 0)]) (n := 3) (Nat.le_of_ble_eq_true rfl)
  rw [lg_entry_eq]
  generalize (lg_sl ([.ref (ad 0)]) ++ List.replicate (3 - (lg_sl ([.ref (ad 0)])).length) Slot.unset).toArray = ls at hl ⊢
  have hl : lv_has ls 3 [(0, .ref (ad 0))] := hl
  have L4 : ∀ (n4 : Nat) (x1 : Int32) (x2 : Int32) (M : pt_M) (H : Heap) (locs : List Loc) (ls : Array Slot), lpX12_covers_4 Q n4 x1 x2 M → va_P D pt_cl (rt_W cA ad M) H → va_S (rt_fr ad s.heap.size) s.heap H locs → lv_has ls 3 [(0, .ref (ad 0)), (1, .int x1), (2, .int x2)] → W p l e (headSpec (Cond.code yX12_covers cX12_covers 3 (some .int) :: lw_all) ({ frames := 0, cells := 0, slots := 0, locals := 0 } : Room)).room s m ([.ref (ad 0)] : List Value).toArray below meth c H locs 0 0 (MQ below (va_Qi Q (rt_B D cA ad) (rt_fr ad s.heap.size)) ([.ref (ad 0)] : List Value).toArray s 0 0 (rt_fr ad s.heap.size)) (F0 m 4 ls []) := by
    intro n4
    induction n4 with
    | zero => intro x1 x2 M H locs ls hw; exact hw.elim
    | succ n4 ih4 =>
      have J28 : ∀ (x2 : Int32) (xs0 : Int32) (xs1 : Int32) (M : pt_M) (H : Heap) (locs : List Loc) (ls : Array Slot), wjX12_covers_28 Q (lpX12_covers_4 Q n4) x2 xs0 xs1 M → va_P D pt_cl (rt_W cA ad M) H → va_S (rt_fr ad s.heap.size) s.heap H locs → lv_has ls 3 [(0, .ref (ad 0)), (2, .int x2)] → W p l e (headSpec (Cond.code yX12_covers cX12_covers 3 (some .int) :: lw_all) ({ frames := 0, cells := 0, slots := 0, locals := 0 } : Room)).room s m ([.ref (ad 0)] : List Value).toArray below meth c H locs 0 0 (MQ below (va_Qi Q (rt_B D cA ad) (rt_fr ad s.heap.size)) ([.ref (ad 0)] : List Value).toArray s 0 0 (rt_fr ad s.heap.size)) (F0 m 28 ls [.int xs1, .int xs0]) := by
        intro x2 xs0 xs1 M H locs ls hw hP hS hl
        unfold wjX12_covers_28 at hw
        refine lv_iadd hx hb dX12_covers_28 ?_
        refine lv_topi (fun x1_29 ex1_29 => ?_)
        replace hw := hw x1_29 ex1_29
        refine lv_istore_n (lv' := [(1, .int x1_29), (0, .ref (ad 0)), (2, .int x2)]) hx hb dX12_covers_29 rfl hl (by decide) rfl (fun ls hl => ?_)
        obtain ⟨x2_30, ex2_30⟩ : ∃ y : Int32, y = x2 + 1 := ⟨_, rfl⟩
        replace hw := hw x2_30 ex2_30
        refine lv_iinc (v := x2_30) (lv' := [(2, .int x2_30), (1, .int x1_29), (0, .ref (ad 0))]) hx hb dX12_covers_30 hl (k := 2) rfl (by rw [ex2_30]; rfl) (by decide) rfl (fun ls hl => ?_)
        refine lv_goto (tgt := 4) hx hb dX12_covers_33 (by decide) ?_
        exact ih4 x1_29 x2_30 M _ _ _ hw hP hS (lv_sub hl [2, 1, 0] rfl)
      intro x1 x2 M H locs ls hw hP hS hl
      replace hw : lbX12_covers_4 Q (lpX12_covers_4 Q n4) x1 x2 M := hw
      unfold lbX12_covers_4 at hw
      refine lv_iload_n hx hb dX12_covers_4 rfl (lv_at hl 2 rfl) ?_
      refine lv_bipush (v := 30) hx hb dX12_covers_5 (by decide) ?_
      refine lv_icmp_ge (tgt := 36) hx hb dX12_covers_7 (by decide) (fun hc7 => ?_) (fun hc7 => ?_)
      · replace hw := hw.1 hc7
        refine lv_iload_n hx hb dX12_covers_36 rfl (lv_at hl 1 rfl) ?_
        exact W.iret (v := x1) hx hb hr (fun t ht hW => ⟨⟨x1, M, rfl, hw, by unfold rt_B; rw [ht]; exact hP⟩, hS.F ht⟩) hS.2.2 dX12_covers_37
      · replace hw := hw.2 hc7
        refine lv_iload_n hx hb dX12_covers_10 rfl (lv_at hl 1 rfl) ?_
        refine lv_aload_n hx hb dX12_covers_11 rfl (lv_at hl 0 rfl) ?_
        refine rt_get F hP (rt_c12 _ rt_k0) (rt_l12 rt_k0) inX12 rfl 2 (by decide) kw_1142 rfl rfl dX12_covers_12 ?_
        refine rt_get F hP (rt_c9 _ rt_k6) (rt_l9 rt_k6) inX9 rfl 5 (by decide) kw_1014 rfl rfl dX12_covers_15 ?_
        refine lv_iload_n hx hb dX12_covers_18 rfl (lv_at hl 2 rfl) ?_
        have hv19 := hw.1
        replace hw := hw.2
        refine rt_iald F hP rt_a10 hv19 dX12_covers_19 ?_
        refine lv_if_le (tgt := 27) hx hb dX12_covers_20 (by decide) (fun hc20 => ?_) (fun hc20 => ?_)
        · replace hw := hw.1 hc20
          refine lv_iconst (v := 0) hx hb dX12_covers_27 (by decide) ?_
          exact J28 x2 x1 0 M _ _ _ hw hP hS (lv_sub hl [0, 2] rfl)
        · replace hw := hw.2 hc20
          refine lv_iconst (v := 1) hx hb dX12_covers_23 (by decide) ?_
          refine lv_goto (tgt := 28) hx hb dX12_covers_24 (by decide) ?_
          exact J28 x2 x1 1 M _ _ _ hw hP hS (lv_sub hl [0, 2] rfl)
  unfold wpX12_covers at hw
  refine lv_iconst (v := 0) hx hb dX12_covers_0 (by decide) ?_
  refine lv_istore_n (lv' := [(1, .int 0), (0, .ref (ad 0))]) hx hb dX12_covers_1 rfl hl (by decide) rfl (fun ls hl => ?_)
  refine lv_iconst (v := 0) hx hb dX12_covers_2 (by decide) ?_
  refine lv_istore_n (lv' := [(2, .int 0), (1, .int 0), (0, .ref (ad 0))]) hx hb dX12_covers_3 rfl hl (by decide) rfl (fun ls hl => ?_)
  obtain ⟨n_, hw⟩ := hw
  exact L4 n_ 0 0 M _ _ _ hw hP hS (lv_sub hl [2, 1, 0] rfl)
-- ===== X12_covered
def wpX12_covered  (M : pt_M) (Q : Int32 → pt_M → Prop) : Prop :=
  wpX12_covers M (fun (r_2 : Int32) (M_2 : pt_M) => wpX12_plain r_2 M_2 (fun (r_5 : Int32) (M_5 : pt_M) => Q r_5 M_5))
set_option maxHeartbeats 4000000 in
set_option maxRecDepth 100000 in
theorem mtX12_covered (l : Launch) (D : va_G) (cA : Nat → ClassId) (ad : Nat → Nat) (hI : rt_I ad) (sz : Nat) (M : pt_M) (Q : Int32 → pt_M → Prop) (hw : wpX12_covered M Q) : Met l yX12_covered (Cond.code yX12_covered cX12_covered 1 (some .int) :: lw_all) ({ frames := 1, cells := 0, slots := 0, locals := 22 } : Room) (va_Pc [.ref (ad 0)] (rt_P D cA ad sz M)) (va_Qi Q (rt_B D cA ad) (rt_fr ad sz)) 0 0 (rt_fr ad sz) := by
  refine Met.ofW (cc := cX12_covered) (maxL := 1) (ret := (some .int)) (by decide) rfl ?_
  intro p e s m args below meth c s₁ B hml hv
  obtain ⟨rfl, hsz, hP, hK, hN⟩ := hv
  have hx := B.exec
  have hb := B.bytes
  have hr := B.returns
  have hts0 := atoms_spec (ws := (Cond.code yX12_covered cX12_covered 1 (some .int) :: lw_all)) B.pre
  have hown : s.vm.findClass RX12 = some m.cls := findClass_of_methodNamed B.named
  have hlocks := B.notSynchronized
  subst hsz
  have F : pt_F p m c cX12_covered 1 s _ RX12 D cA := ⟨⟨hx, hb, hml, hown, fun w h => hts0 w (List.mem_cons_of_mem _ h)⟩, hK⟩
  have hD : ∀ M, va_D (rt_fr ad s.heap.size) (rt_W cA ad M) := rt_D hI (fun k h => Or.inl ⟨k, h, rfl⟩)
  have hS : va_S (rt_fr ad s.heap.size) s.heap s.heap [] := va_S.rf
  have hl := lv_entry ([.ref (ad 0)]) (n := 1) (Nat.le_of_ble_eq_true rfl)
  rw [lg_entry_eq]
  generalize (lg_sl ([.ref (ad 0)]) ++ List.replicate (1 - (lg_sl ([.ref (ad 0)])).length) Slot.unset).toArray = ls at hl ⊢
  have hl : lv_has ls 1 [(0, .ref (ad 0))] := hl
  unfold wpX12_covered at hw
  refine lv_aload_n hx hb dX12_covered_0 rfl (lv_at hl 0 rfl) ?_
  refine lv_aload_n hx hb dX12_covered_1 rfl (lv_at hl 0 rfl) ?_
  refine rt_calli (rt_runV (n := 0) (As := []) (rest := [.ref (ad 0)]) F hP hN hS (rt_frs hS.1) (rt_c12 _ rt_k0) (rt_l12 rt_k0) rfl (mtX12_covers l D cA ad hI _ M _ hw) kw_1532 kw_1529 kw_60 kw_1531 kw_47 ⟨by decide, by decide, by decide +kernel⟩ ⟨rfl, rfl, Nat.le_of_ble_eq_true rfl, Nat.le_of_ble_eq_true rfl⟩ rfl hl.1 rfl (Nat.le_of_ble_eq_true rfl) dX12_covered_2 ⟨Nat.zero_le _, Nat.zero_le _⟩) hS (fun _ h => h) (fun r_2 M_2 H locs hw hP hS _ _ => ?_)
  refine rt_calli (rt_runV (n := 1) (As := [.int r_2]) (rest := []) F hP hN hS (rt_frs hS.1) (rt_c12 _ rt_k0) (rt_l12 rt_k0) rfl (mtX12_plain l D cA ad hI _ r_2 M_2 _ hw) kw_1469 kw_1466 kw_60 kw_1468 kw_44 ⟨by decide, by decide, by decide +kernel⟩ ⟨rfl, rfl, Nat.le_of_ble_eq_true rfl, Nat.le_of_ble_eq_true rfl⟩ rfl hl.1 rfl (Nat.le_of_ble_eq_true rfl) dX12_covered_5 ⟨Nat.zero_le _, Nat.zero_le _⟩) hS (fun _ h => h) (fun r_5 M_5 H locs hw hP hS _ _ => ?_)
  exact W.iret (v := r_5) hx hb hr (fun t ht hW => ⟨⟨r_5, M_5, rfl, hw, by unfold rt_B; rw [ht]; exact hP⟩, hS.F ht⟩) hS.2.2 dX12_covered_8
-- ===== X12_lost
def wpX12_lost  (M : pt_M) (Q : Int32 → pt_M → Prop) : Prop :=
  wpX12_plain (M 6 8) M (fun (r_8 : Int32) (M_8 : pt_M) => Q r_8 M_8)
set_option maxHeartbeats 4000000 in
set_option maxRecDepth 100000 in
theorem mtX12_lost (l : Launch) (D : va_G) (cA : Nat → ClassId) (ad : Nat → Nat) (hI : rt_I ad) (sz : Nat) (M : pt_M) (Q : Int32 → pt_M → Prop) (hw : wpX12_lost M Q) : Met l yX12_lost (Cond.code yX12_lost cX12_lost 1 (some .int) :: lw_all) ({ frames := 1, cells := 0, slots := 0, locals := 21 } : Room) (va_Pc [.ref (ad 0)] (rt_P D cA ad sz M)) (va_Qi Q (rt_B D cA ad) (rt_fr ad sz)) 0 0 (rt_fr ad sz) := by
  refine Met.ofW (cc := cX12_lost) (maxL := 1) (ret := (some .int)) (by decide) rfl ?_
  intro p e s m args below meth c s₁ B hml hv
  obtain ⟨rfl, hsz, hP, hK, hN⟩ := hv
  have hx := B.exec
  have hb := B.bytes
  have hr := B.returns
  have hts0 := atoms_spec (ws := (Cond.code yX12_lost cX12_lost 1 (some .int) :: lw_all)) B.pre
  have hown : s.vm.findClass RX12 = some m.cls := findClass_of_methodNamed B.named
  have hlocks := B.notSynchronized
  subst hsz
  have F : pt_F p m c cX12_lost 1 s _ RX12 D cA := ⟨⟨hx, hb, hml, hown, fun w h => hts0 w (List.mem_cons_of_mem _ h)⟩, hK⟩
  have hD : ∀ M, va_D (rt_fr ad s.heap.size) (rt_W cA ad M) := rt_D hI (fun k h => Or.inl ⟨k, h, rfl⟩)
  have hS : va_S (rt_fr ad s.heap.size) s.heap s.heap [] := va_S.rf
  have hl := lv_entry ([.ref (ad 0)]) (n := 1) (Nat.le_of_ble_eq_true rfl)
  rw [lg_entry_eq]
  generalize (lg_sl ([.ref (ad 0)]) ++ List.replicate (1 - (lg_sl ([.ref (ad 0)])).length) Slot.unset).toArray = ls at hl ⊢
  have hl : lv_has ls 1 [(0, .ref (ad 0))] := hl
  unfold wpX12_lost at hw
  refine lv_aload_n hx hb dX12_lost_0 rfl (lv_at hl 0 rfl) ?_
  refine lv_aload_n hx hb dX12_lost_1 rfl (lv_at hl 0 rfl) ?_
  refine rt_get F hP (rt_c12 _ rt_k0) (rt_l12 rt_k0) inX12 rfl 2 (by decide) kw_1142 rfl rfl dX12_lost_2 ?_
  refine rt_get F hP (rt_c9 _ rt_k6) (rt_l9 rt_k6) inX9 rfl 8 (by decide) kw_1019 rfl rfl dX12_lost_5 ?_
  refine rt_calli (rt_runV (n := 1) (As := [.int (M 6 8)]) (rest := []) F hP hN hS (rt_frs hS.1) (rt_c12 _ rt_k0) (rt_l12 rt_k0) rfl (mtX12_plain l D cA ad hI _ (M 6 8) M _ hw) kw_1469 kw_1466 kw_60 kw_1468 kw_44 ⟨by decide, by decide, by decide +kernel⟩ ⟨rfl, rfl, Nat.le_of_ble_eq_true rfl, Nat.le_of_ble_eq_true rfl⟩ rfl hl.1 rfl (Nat.le_of_ble_eq_true rfl) dX12_lost_8 ⟨Nat.zero_le _, Nat.zero_le _⟩) hS (fun _ h => h) (fun r_8 M_8 H locs hw hP hS _ _ => ?_)
  exact W.iret (v := r_8) hx hb hr (fun t ht hW => ⟨⟨r_8, M_8, rfl, hw, by unfold rt_B; rw [ht]; exact hP⟩, hS.F ht⟩) hS.2.2 dX12_lost_11
-- ===== X12_restless
def wpX12_restless  (M : pt_M) (Q : Int32 → pt_M → Prop) : Prop :=
  wpX12_plain (M 6 9) M (fun (r_8 : Int32) (M_8 : pt_M) => Q r_8 M_8)
set_option maxHeartbeats 4000000 in
set_option maxRecDepth 100000 in
theorem mtX12_restless (l : Launch) (D : va_G) (cA : Nat → ClassId) (ad : Nat → Nat) (hI : rt_I ad) (sz : Nat) (M : pt_M) (Q : Int32 → pt_M → Prop) (hw : wpX12_restless M Q) : Met l yX12_restless (Cond.code yX12_restless cX12_restless 1 (some .int) :: lw_all) ({ frames := 1, cells := 0, slots := 0, locals := 21 } : Room) (va_Pc [.ref (ad 0)] (rt_P D cA ad sz M)) (va_Qi Q (rt_B D cA ad) (rt_fr ad sz)) 0 0 (rt_fr ad sz) := by
  refine Met.ofW (cc := cX12_restless) (maxL := 1) (ret := (some .int)) (by decide) rfl ?_
  intro p e s m args below meth c s₁ B hml hv
  obtain ⟨rfl, hsz, hP, hK, hN⟩ := hv
  have hx := B.exec
  have hb := B.bytes
  have hr := B.returns
  have hts0 := atoms_spec (ws := (Cond.code yX12_restless cX12_restless 1 (some .int) :: lw_all)) B.pre
  have hown : s.vm.findClass RX12 = some m.cls := findClass_of_methodNamed B.named
  have hlocks := B.notSynchronized
  subst hsz
  have F : pt_F p m c cX12_restless 1 s _ RX12 D cA := ⟨⟨hx, hb, hml, hown, fun w h => hts0 w (List.mem_cons_of_mem _ h)⟩, hK⟩
  have hD : ∀ M, va_D (rt_fr ad s.heap.size) (rt_W cA ad M) := rt_D hI (fun k h => Or.inl ⟨k, h, rfl⟩)
  have hS : va_S (rt_fr ad s.heap.size) s.heap s.heap [] := va_S.rf
  have hl := lv_entry ([.ref (ad 0)]) (n := 1) (Nat.le_of_ble_eq_true rfl)
  rw [lg_entry_eq]
  generalize (lg_sl ([.ref (ad 0)]) ++ List.replicate (1 - (lg_sl ([.ref (ad 0)])).length) Slot.unset).toArray = ls at hl ⊢
  have hl : lv_has ls 1 [(0, .ref (ad 0))] := hl
  unfold wpX12_restless at hw
  refine lv_aload_n hx hb dX12_restless_0 rfl (lv_at hl 0 rfl) ?_
  refine lv_aload_n hx hb dX12_restless_1 rfl (lv_at hl 0 rfl) ?_
  refine rt_get F hP (rt_c12 _ rt_k0) (rt_l12 rt_k0) inX12 rfl 2 (by decide) kw_1142 rfl rfl dX12_restless_2 ?_
  refine rt_get F hP (rt_c9 _ rt_k6) (rt_l9 rt_k6) inX9 rfl 9 (by decide) kw_1021 rfl rfl dX12_restless_5 ?_
  refine rt_calli (rt_runV (n := 1) (As := [.int (M 6 9)]) (rest := []) F hP hN hS (rt_frs hS.1) (rt_c12 _ rt_k0) (rt_l12 rt_k0) rfl (mtX12_plain l D cA ad hI _ (M 6 9) M _ hw) kw_1469 kw_1466 kw_60 kw_1468 kw_44 ⟨by decide, by decide, by decide +kernel⟩ ⟨rfl, rfl, Nat.le_of_ble_eq_true rfl, Nat.le_of_ble_eq_true rfl⟩ rfl hl.1 rfl (Nat.le_of_ble_eq_true rfl) dX12_restless_8 ⟨Nat.zero_le _, Nat.zero_le _⟩) hS (fun _ h => h) (fun r_8 M_8 H locs hw hP hS _ _ => ?_)
  exact W.iret (v := r_8) hx hb hr (fun t ht hW => ⟨⟨r_8, M_8, rfl, hw, by unfold rt_B; rw [ht]; exact hP⟩, hS.F ht⟩) hS.2.2 dX12_restless_11
-- ===== X12_isNoEvent
def wjX12_isNoEvent_51 (p1 : Int32) (Q : Int32 → pt_M → Prop)  (xs0 : Int32) (M : pt_M) : Prop :=
  pt_zb xs0 ∧ Q xs0 M
def wjX12_isNoEvent_46 (p1 : Int32) (Q : Int32 → pt_M → Prop)   (M : pt_M) : Prop :=
  wjX12_isNoEvent_51 p1 Q 1 M
def wjX12_isNoEvent_39 (p1 : Int32) (Q : Int32 → pt_M → Prop)  (xs1 : Int32) (M : pt_M) : Prop :=
  wpX12_refuse xs1 2 M (fun (r_40 : Int32) (M_40 : pt_M) => (r_40 = 0 → wjX12_isNoEvent_51 p1 Q 0 M_40) ∧ (¬ r_40 = 0 → wjX12_isNoEvent_46 p1 Q M_40))
def wjX12_isNoEvent_16 (p1 : Int32) (Q : Int32 → pt_M → Prop)  (xs1 : Int32) (M : pt_M) : Prop :=
  wpX12_start xs1 1 M (fun (r_17 : Int32) (M_17 : pt_M) => (¬ r_17 = 0 → wjX12_isNoEvent_46 p1 Q M_17) ∧ (r_17 = 0 → wpX12_isIn p1 0 9 M_17 (fun (r_28 : Int32) (M_28 : pt_M) => (¬ r_28 = 0 → wjX12_isNoEvent_39 p1 Q 0 M_28) ∧ (r_28 = 0 → wjX12_isNoEvent_39 p1 Q 1 M_28))))
def wpX12_isNoEvent (p1 : Int32) (M : pt_M) (Q : Int32 → pt_M → Prop) : Prop :=
  (¬ (M 6 0) = 0 → wjX12_isNoEvent_16 p1 Q 0 M) ∧ ((M 6 0) = 0 → wjX12_isNoEvent_16 p1 Q 1 M)
set_option maxHeartbeats 4000000 in
set_option maxRecDepth 100000 in
theorem mtX12_isNoEvent (l : Launch) (D : va_G) (cA : Nat → ClassId) (ad : Nat → Nat) (hI : rt_I ad) (sz : Nat) (p1 : Int32) (M : pt_M) (Q : Int32 → pt_M → Prop) (hw : wpX12_isNoEvent p1 M Q) : Met l yX12_isNoEvent (Cond.code yX12_isNoEvent cX12_isNoEvent 2 (some .boolean) :: lw_all) ({ frames := 2, cells := 0, slots := 0, locals := 44 } : Room) (va_Pc [.ref (ad 0), .int p1] (rt_P D cA ad sz M)) (va_Qi Q (rt_B D cA ad) (rt_fr ad sz)) 0 0 (rt_fr ad sz) := by
  refine Met.ofW (cc := cX12_isNoEvent) (maxL := 2) (ret := (some .boolean)) (by decide) rfl ?_
  intro p e s m args below meth c s₁ B hml hv
  obtain ⟨rfl, hsz, hP, hK, hN⟩ := hv
  have hx := B.exec
  have hb := B.bytes
  have hr := B.returns
  have hts0 := atoms_spec (ws := (Cond.code yX12_isNoEvent cX12_isNoEvent 2 (some .boolean) :: lw_all)) B.pre
  have hown : s.vm.findClass RX12 = some m.cls := findClass_of_methodNamed B.named
  have hlocks := B.notSynchronized
  subst hsz
  have F : pt_F p m c cX12_isNoEvent 2 s _ RX12 D cA := ⟨⟨hx, hb, hml, hown, fun w h => hts0 w (List.mem_cons_of_mem _ h)⟩, hK⟩
  have hD : ∀ M, va_D (rt_fr ad s.heap.size) (rt_W cA ad M) := rt_D hI (fun k h => Or.inl ⟨k, h, rfl⟩)
  have hS : va_S (rt_fr ad s.heap.size) s.heap s.heap [] := va_S.rf
  have hl := lv_entry ([.ref (ad 0), .int p1]) (n := 2) (Nat.le_of_ble_eq_true rfl)
  rw [lg_entry_eq]
  generalize (lg_sl ([.ref (ad 0), .int p1]) ++ List.replicate (2 - (lg_sl ([.ref (ad 0), .int p1])).length) Slot.unset).toArray = ls at hl ⊢
  have hl : lv_has ls 2 [(0, .ref (ad 0)), (1, .int p1)] := hl
  have J51 : ∀ (xs0 : Int32) (M : pt_M) (H : Heap) (locs : List Loc) (ls : Array Slot), wjX12_isNoEvent_51 p1 Q xs0 M → va_P D pt_cl (rt_W cA ad M) H → va_S (rt_fr ad s.heap.size) s.heap H locs → lv_has ls 2 [] → W p l e (headSpec (Cond.code yX12_isNoEvent cX12_isNoEvent 2 (some .boolean) :: lw_all) ({ frames := 2, cells := 0, slots := 0, locals := 44 } : Room)).room s m ([.ref (ad 0), .int p1] : List Value).toArray below meth c H locs 0 0 (MQ below (va_Qi Q (rt_B D cA ad) (rt_fr ad s.heap.size)) ([.ref (ad 0), .int p1] : List Value).toArray s 0 0 (rt_fr ad s.heap.size)) (F0 m 51 ls [.int xs0]) := by
    intro xs0 M H locs ls hw hP hS hl
    unfold wjX12_isNoEvent_51 at hw
    exact W.zret (v := xs0) (ty := .boolean) hx hb hr (pt_zb_n hw.1) (fun t ht hW => ⟨⟨xs0, M, rfl, hw.2, by unfold rt_B; rw [ht]; exact hP⟩, hS.F ht⟩) hS.2.2 dX12_isNoEvent_51
  have J46 : ∀ (M : pt_M) (H : Heap) (locs : List Loc) (ls : Array Slot), wjX12_isNoEvent_46 p1 Q M → va_P D pt_cl (rt_W cA ad M) H → va_S (rt_fr ad s.heap.size) s.heap H locs → lv_has ls 2 [] → W p l e (headSpec (Cond.code yX12_isNoEvent cX12_isNoEvent 2 (some .boolean) :: lw_all) ({ frames := 2, cells := 0, slots := 0, locals := 44 } : Room)).room s m ([.ref (ad 0), .int p1] : List Value).toArray below meth c H locs 0 0 (MQ below (va_Qi Q (rt_B D cA ad) (rt_fr ad s.heap.size)) ([.ref (ad 0), .int p1] : List Value).toArray s 0 0 (rt_fr ad s.heap.size)) (F0 m 46 ls []) := by
    intro M H locs ls hw hP hS hl
    unfold wjX12_isNoEvent_46 at hw
    refine lv_iconst (v := 1) hx hb dX12_isNoEvent_46 (by decide) ?_
    refine lv_goto (tgt := 51) hx hb dX12_isNoEvent_47 (by decide) ?_
    exact J51 1 M _ _ _ hw hP hS (lv_sub hl [] rfl)
  have J39 : ∀ (xs1 : Int32) (M : pt_M) (H : Heap) (locs : List Loc) (ls : Array Slot), wjX12_isNoEvent_39 p1 Q xs1 M → va_P D pt_cl (rt_W cA ad M) H → va_S (rt_fr ad s.heap.size) s.heap H locs → lv_has ls 2 [] → W p l e (headSpec (Cond.code yX12_isNoEvent cX12_isNoEvent 2 (some .boolean) :: lw_all) ({ frames := 2, cells := 0, slots := 0, locals := 44 } : Room)).room s m ([.ref (ad 0), .int p1] : List Value).toArray below meth c H locs 0 0 (MQ below (va_Qi Q (rt_B D cA ad) (rt_fr ad s.heap.size)) ([.ref (ad 0), .int p1] : List Value).toArray s 0 0 (rt_fr ad s.heap.size)) (F0 m 39 ls [.int xs1, .ref (ad 0)]) := by
    intro xs1 M H locs ls hw hP hS hl
    unfold wjX12_isNoEvent_39 at hw
    refine lv_iconst (v := 2) hx hb dX12_isNoEvent_39 (by decide) ?_
    refine rt_calli (rt_runV (n := 2) (As := [.int xs1, .int 2]) (rest := []) F hP hN hS (rt_frs hS.1) (rt_c12 _ rt_k0) (rt_l12 rt_k0) rfl (mtX12_refuse l D cA ad hI _ xs1 2 M _ hw) kw_1175 kw_1172 kw_60 kw_1174 kw_29 ⟨by decide, by decide, by decide +kernel⟩ ⟨rfl, rfl, Nat.le_of_ble_eq_true rfl, Nat.le_of_ble_eq_true rfl⟩ rfl hl.1 rfl (Nat.le_of_ble_eq_true rfl) dX12_isNoEvent_40 ⟨Nat.zero_le _, Nat.zero_le _⟩) hS (fun _ h => h) (fun r_40 M_40 H locs hw hP hS _ _ => ?_)
    refine lv_if_eq (tgt := 50) hx hb dX12_isNoEvent_43 (by decide) (fun hc43 => ?_) (fun hc43 => ?_)
    · replace hw := hw.1 hc43
      refine lv_iconst (v := 0) hx hb dX12_isNoEvent_50 (by decide) ?_
      exact J51 0 M_40 _ _ _ hw hP hS (lv_sub hl [] rfl)
    · replace hw := hw.2 hc43
      exact J46 M_40 _ _ _ hw hP hS (lv_sub hl [] rfl)
  have J16 : ∀ (xs1 : Int32) (M : pt_M) (H : Heap) (locs : List Loc) (ls : Array Slot), wjX12_isNoEvent_16 p1 Q xs1 M → va_P D pt_cl (rt_W cA ad M) H → va_S (rt_fr ad s.heap.size) s.heap H locs → lv_has ls 2 [(0, .ref (ad 0)), (1, .int p1)] → W p l e (headSpec (Cond.code yX12_isNoEvent cX12_isNoEvent 2 (some .boolean) :: lw_all) ({ frames := 2, cells := 0, slots := 0, locals := 44 } : Room)).room s m ([.ref (ad 0), .int p1] : List Value).toArray below meth c H locs 0 0 (MQ below (va_Qi Q (rt_B D cA ad) (rt_fr ad s.heap.size)) ([.ref (ad 0), .int p1] : List Value).toArray s 0 0 (rt_fr ad s.heap.size)) (F0 m 16 ls [.int xs1, .ref (ad 0)]) := by
    intro xs1 M H locs ls hw hP hS hl
    unfold wjX12_isNoEvent_16 at hw
    refine lv_iconst (v := 1) hx hb dX12_isNoEvent_16 (by decide) ?_
    refine rt_calli (rt_runV (n := 2) (As := [.int xs1, .int 1]) (rest := []) F hP hN hS (rt_frs hS.1) (rt_c12 _ rt_k0) (rt_l12 rt_k0) rfl (mtX12_start l D cA ad hI _ xs1 1 M _ hw) kw_1171 kw_1168 kw_60 kw_1170 kw_28 ⟨by decide, by decide, by decide +kernel⟩ ⟨rfl, rfl, Nat.le_of_ble_eq_true rfl, Nat.le_of_ble_eq_true rfl⟩ rfl hl.1 rfl (Nat.le_of_ble_eq_true rfl) dX12_isNoEvent_17 ⟨Nat.zero_le _, Nat.zero_le _⟩) hS (fun _ h => h) (fun r_17 M_17 H locs hw hP hS _ _ => ?_)
    refine lv_if_ne (tgt := 46) hx hb dX12_isNoEvent_20 (by decide) (fun hc20 => ?_) (fun hc20 => ?_)
    · replace hw := hw.1 hc20
      exact J46 M_17 _ _ _ hw hP hS (lv_sub hl [] rfl)
    · replace hw := hw.2 hc20
      refine lv_aload_n hx hb dX12_isNoEvent_23 rfl (lv_at hl 0 rfl) ?_
      refine lv_iload_n hx hb dX12_isNoEvent_24 rfl (lv_at hl 1 rfl) ?_
      refine lv_iconst (v := 0) hx hb dX12_isNoEvent_25 (by decide) ?_
      refine lv_bipush (v := 9) hx hb dX12_isNoEvent_26 (by decide) ?_
      refine rt_calli (rt_runS (n := 3) (As := [.int p1, .int 0, .int 9]) (rest := [.ref (ad 0)]) F hP hN hS (rt_frs hS.1) (mtX12_isIn l D cA ad hI _ p1 0 9 M_17 _ hw) kw_1182 kw_1180 kw_60 kw_1181 ⟨by decide, by decide, by decide +kernel⟩ ⟨rfl, rfl, Nat.le_of_ble_eq_true rfl, Nat.le_of_ble_eq_true rfl⟩ rfl hl.1 rfl (Nat.le_of_ble_eq_true rfl) dX12_isNoEvent_28 ⟨Nat.zero_le _, Nat.zero_le _⟩) hS (fun _ h => h) (fun r_28 M_28 H locs hw hP hS _ _ => ?_)
      refine lv_if_ne (tgt := 38) hx hb dX12_isNoEvent_31 (by decide) (fun hc31 => ?_) (fun hc31 => ?_)
      · replace hw := hw.1 hc31
        refine lv_iconst (v := 0) hx hb dX12_isNoEvent_38 (by decide) ?_
        exact J39 0 M_28 _ _ _ hw hP hS (lv_sub hl [] rfl)
      · replace hw := hw.2 hc31
        refine lv_iconst (v := 1) hx hb dX12_isNoEvent_34 (by decide) ?_
        refine lv_goto (tgt := 39) hx hb dX12_isNoEvent_35 (by decide) ?_
        exact J39 1 M_28 _ _ _ hw hP hS (lv_sub hl [] rfl)
  unfold wpX12_isNoEvent at hw
  refine lv_aload_n hx hb dX12_isNoEvent_0 rfl (lv_at hl 0 rfl) ?_
  refine lv_aload_n hx hb dX12_isNoEvent_1 rfl (lv_at hl 0 rfl) ?_
  refine rt_get F hP (rt_c12 _ rt_k0) (rt_l12 rt_k0) inX12 rfl 2 (by decide) kw_1142 rfl rfl dX12_isNoEvent_2 ?_
  refine rt_get F hP (rt_c9 _ rt_k6) (rt_l9 rt_k6) inX9 rfl 0 (by decide) kw_1004 rfl rfl dX12_isNoEvent_5 ?_
  refine lv_if_ne (tgt := 15) hx hb dX12_isNoEvent_8 (by decide) (fun hc8 => ?_) (fun hc8 => ?_)
  · replace hw := hw.1 hc8
    refine lv_iconst (v := 0) hx hb dX12_isNoEvent_15 (by decide) ?_
    exact J16 0 M _ _ _ hw hP hS (lv_sub hl [0, 1] rfl)
  · replace hw := hw.2 hc8
    refine lv_iconst (v := 1) hx hb dX12_isNoEvent_11 (by decide) ?_
    refine lv_goto (tgt := 16) hx hb dX12_isNoEvent_12 (by decide) ?_
    exact J16 1 M _ _ _ hw hP hS (lv_sub hl [0, 1] rfl)
-- ===== X12_wouldFire
def wpX12_wouldFire (p1 : Int32) (M : pt_M) (Q : Int32 → pt_M → Prop) : Prop :=
  wpX12_isNoEvent p1 M (fun (r_2 : Int32) (M_2 : pt_M) => (r_2 = 0 → False) ∧ (¬ r_2 = 0 → Q 0 M_2))
set_option maxHeartbeats 4000000 in
set_option maxRecDepth 100000 in
theorem mtX12_wouldFire (l : Launch) (D : va_G) (cA : Nat → ClassId) (ad : Nat → Nat) (hI : rt_I ad) (sz : Nat) (p1 : Int32) (M : pt_M) (Q : Int32 → pt_M → Prop) (hw : wpX12_wouldFire p1 M Q) : Met l yX12_wouldFire (Cond.code yX12_wouldFire cX12_wouldFire 2 (some .int) :: lw_all) ({ frames := 3, cells := 0, slots := 0, locals := 65 } : Room) (va_Pc [.ref (ad 0), .int p1] (rt_P D cA ad sz M)) (va_Qi Q (rt_B D cA ad) (rt_fr ad sz)) 0 0 (rt_fr ad sz) := by
  refine Met.ofW (cc := cX12_wouldFire) (maxL := 2) (ret := (some .int)) (by decide) rfl ?_
  intro p e s m args below meth c s₁ B hml hv
  obtain ⟨rfl, hsz, hP, hK, hN⟩ := hv
  have hx := B.exec
  have hb := B.bytes
  have hr := B.returns
  have hts0 := atoms_spec (ws := (Cond.code yX12_wouldFire cX12_wouldFire 2 (some .int) :: lw_all)) B.pre
  have hown : s.vm.findClass RX12 = some m.cls := findClass_of_methodNamed B.named
  have hlocks := B.notSynchronized
  subst hsz
  have F : pt_F p m c cX12_wouldFire 2 s _ RX12 D cA := ⟨⟨hx, hb, hml, hown, fun w h => hts0 w (List.mem_cons_of_mem _ h)⟩, hK⟩
  have hD : ∀ M, va_D (rt_fr ad s.heap.size) (rt_W cA ad M) := rt_D hI (fun k h => Or.inl ⟨k, h, rfl⟩)
  have hS : va_S (rt_fr ad s.heap.size) s.heap s.heap [] := va_S.rf
  have hl := lv_entry ([.ref (ad 0), .int p1]) (n := 2) (Nat.le_of_ble_eq_true rfl)
  rw [lg_entry_eq]
  generalize (lg_sl ([.ref (ad 0), .int p1]) ++ List.replicate (2 - (lg_sl ([.ref (ad 0), .int p1])).length) Slot.unset).toArray = ls at hl ⊢
  have hl : lv_has ls 2 [(0, .ref (ad 0)), (1, .int p1)] := hl
  unfold wpX12_wouldFire at hw
  refine lv_aload_n hx hb dX12_wouldFire_0 rfl (lv_at hl 0 rfl) ?_
  refine lv_iload_n hx hb dX12_wouldFire_1 rfl (lv_at hl 1 rfl) ?_
  refine rt_calli (rt_runV (n := 1) (As := [.int p1]) (rest := []) F hP hN hS (rt_frs hS.1) (rt_c12 _ rt_k0) (rt_l12 rt_k0) rfl (mtX12_isNoEvent l D cA ad hI _ p1 M _ hw) kw_1548 kw_1545 kw_60 kw_1547 kw_48 ⟨by decide, by decide, by decide +kernel⟩ ⟨rfl, rfl, Nat.le_of_ble_eq_true rfl, Nat.le_of_ble_eq_true rfl⟩ rfl hl.1 rfl (Nat.le_of_ble_eq_true rfl) dX12_wouldFire_2 ⟨Nat.zero_le _, Nat.zero_le _⟩) hS (fun _ h => h) (fun r_2 M_2 H locs hw hP hS _ _ => ?_)
  refine lv_if_eq (tgt := 12) hx hb dX12_wouldFire_5 (by decide) (fun hc5 => ?_) (fun hc5 => ?_)
  · replace hw := hw.1 hc5
    refine lv_aload_n hx hb dX12_wouldFire_12 rfl (lv_at hl 0 rfl) ?_
    refine rt_get F hP (rt_c12 _ rt_k0) (rt_l12 rt_k0) inX12 rfl 2 (by decide) kw_1142 rfl rfl dX12_wouldFire_13 ?_
    exact hw.elim
  · replace hw := hw.2 hc5
    refine lv_iconst (v := 0) hx hb dX12_wouldFire_8 (by decide) ?_
    refine lv_goto (tgt := 23) hx hb dX12_wouldFire_9 (by decide) ?_
    exact W.iret (v := 0) hx hb hr (fun t ht hW => ⟨⟨0, M_2, rfl, hw, by unfold rt_B; rw [ht]; exact hP⟩, hS.F ht⟩) hS.2.2 dX12_wouldFire_23
-- ===== X12_wouldBe
def wpX12_wouldBe (p1 : Int32) (M : pt_M) (Q : Int32 → pt_M → Prop) : Prop :=
  wpX12_isNoEvent p1 M (fun (r_2 : Int32) (M_2 : pt_M) => (r_2 = 0 → False) ∧ (¬ r_2 = 0 → Q 0 M_2))
set_option maxHeartbeats 4000000 in
set_option maxRecDepth 100000 in
theorem mtX12_wouldBe (l : Launch) (D : va_G) (cA : Nat → ClassId) (ad : Nat → Nat) (hI : rt_I ad) (sz : Nat) (p1 : Int32) (M : pt_M) (Q : Int32 → pt_M → Prop) (hw : wpX12_wouldBe p1 M Q) : Met l yX12_wouldBe (Cond.code yX12_wouldBe cX12_wouldBe 3 (some .int) :: lw_all) ({ frames := 3, cells := 0, slots := 0, locals := 65 } : Room) (va_Pc [.ref (ad 0), .int p1] (rt_P D cA ad sz M)) (va_Qi Q (rt_B D cA ad) (rt_fr ad sz)) 0 0 (rt_fr ad sz) := by
  refine Met.ofW (cc := cX12_wouldBe) (maxL := 3) (ret := (some .int)) (by decide) rfl ?_
  intro p e s m args below meth c s₁ B hml hv
  obtain ⟨rfl, hsz, hP, hK, hN⟩ := hv
  have hx := B.exec
  have hb := B.bytes
  have hr := B.returns
  have hts0 := atoms_spec (ws := (Cond.code yX12_wouldBe cX12_wouldBe 3 (some .int) :: lw_all)) B.pre
  have hown : s.vm.findClass RX12 = some m.cls := findClass_of_methodNamed B.named
  have hlocks := B.notSynchronized
  subst hsz
  have F : pt_F p m c cX12_wouldBe 3 s _ RX12 D cA := ⟨⟨hx, hb, hml, hown, fun w h => hts0 w (List.mem_cons_of_mem _ h)⟩, hK⟩
  have hD : ∀ M, va_D (rt_fr ad s.heap.size) (rt_W cA ad M) := rt_D hI (fun k h => Or.inl ⟨k, h, rfl⟩)
  have hS : va_S (rt_fr ad s.heap.size) s.heap s.heap [] := va_S.rf
  have hl := lv_entry ([.ref (ad 0), .int p1]) (n := 3) (Nat.le_of_ble_eq_true rfl)
  rw [lg_entry_eq]
  generalize (lg_sl ([.ref (ad 0), .int p1]) ++ List.replicate (3 - (lg_sl ([.ref (ad 0), .int p1])).length) Slot.unset).toArray = ls at hl ⊢
  have hl : lv_has ls 3 [(0, .ref (ad 0)), (1, .int p1)] := hl
  unfold wpX12_wouldBe at hw
  refine lv_aload_n hx hb dX12_wouldBe_0 rfl (lv_at hl 0 rfl) ?_
  refine lv_iload_n hx hb dX12_wouldBe_1 rfl (lv_at hl 1 rfl) ?_
  refine rt_calli (rt_runV (n := 1) (As := [.int p1]) (rest := []) F hP hN hS (rt_frs hS.1) (rt_c12 _ rt_k0) (rt_l12 rt_k0) rfl (mtX12_isNoEvent l D cA ad hI _ p1 M _ hw) kw_1548 kw_1545 kw_60 kw_1547 kw_48 ⟨by decide, by decide, by decide +kernel⟩ ⟨rfl, rfl, Nat.le_of_ble_eq_true rfl, Nat.le_of_ble_eq_true rfl⟩ rfl hl.1 rfl (Nat.le_of_ble_eq_true rfl) dX12_wouldBe_2 ⟨Nat.zero_le _, Nat.zero_le _⟩) hS (fun _ h => h) (fun r_2 M_2 H locs hw hP hS _ _ => ?_)
  refine lv_if_eq (tgt := 10) hx hb dX12_wouldBe_5 (by decide) (fun hc5 => ?_) (fun hc5 => ?_)
  · replace hw := hw.1 hc5
    refine lv_aload_n hx hb dX12_wouldBe_10 rfl (lv_at hl 0 rfl) ?_
    refine rt_get F hP (rt_c12 _ rt_k0) (rt_l12 rt_k0) inX12 rfl 2 (by decide) kw_1142 rfl rfl dX12_wouldBe_11 ?_
    exact hw.elim
  · replace hw := hw.2 hc5
    refine lv_iconst (v := 0) hx hb dX12_wouldBe_8 (by decide) ?_
    exact W.iret (v := 0) hx hb hr (fun t ht hW => ⟨⟨0, M_2, rfl, hw, by unfold rt_B; rw [ht]; exact hP⟩, hS.F ht⟩) hS.2.2 dX12_wouldBe_9
