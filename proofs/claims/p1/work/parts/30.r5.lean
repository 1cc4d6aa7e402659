-- ===== X12_of
def wjX12_of_58 (p1 : Int32) (p2 : Int32) (Q : Int32 → pt_M → Prop)  (xs0 : Int32) (M : pt_M) : Prop :=
  Q xs0 M
def wpX12_of (p1 : Int32) (p2 : Int32) (M : pt_M) (Q : Int32 → pt_M → Prop) : Prop :=
  (¬ p2 = 0 → (¬ p2 = 1 → (¬ p2 = 2 → wpX8_parts p1 M (fun (r_52 : Int32) (M_52 : pt_M) => wpPJ6_bitCount r_52 M_52 (fun (r_55 : Int32) (_ : pt_M) => wjX12_of_58 p1 p2 Q r_55 M_52))) ∧ (p2 = 2 → wpX8_first p1 M (fun (r_41 : Int32) (M_41 : pt_M) => wjX12_of_58 p1 p2 Q r_41 M_41))) ∧ (p2 = 1 → wpX8_parent p1 M (fun (r_25 : Int32) (M_25 : pt_M) => wjX12_of_58 p1 p2 Q r_25 M_25))) ∧ (p2 = 0 → wpX8_kind p1 M (fun (r_9 : Int32) (M_9 : pt_M) => wjX12_of_58 p1 p2 Q r_9 M_9))
set_option maxHeartbeats 4000000 in
set_option maxRecDepth 100000 in
theorem mtX12_of (l : Launch) (D : va_G) (cA : Nat → ClassId) (ad : Nat → Nat) (hI : rt_I ad) (sz : Nat) (p1 : Int32) (p2 : Int32) (M : pt_M) (Q : Int32 → pt_M → Prop) (hw : wpX12_of p1 p2 M Q) : Met l yX12_of (Cond.code yX12_of cX12_of 3 (some .int) :: lw_all) ({ frames := 6, cells := 0, slots := 0, locals := 129 } : Room) (va_Pc [.ref (ad 0), .int p1, .int p2] (rt_P D cA ad sz M)) (va_Qi Q (rt_B D cA ad) (rt_fr ad sz)) 0 0 (rt_fr ad sz) := by
  refine Met.ofW (cc := cX12_of) (maxL := 3) (ret := (some .int)) (by decide) rfl ?_
  intro p e s m args below meth c s₁ B hml hv
  obtain ⟨rfl, hsz, hP, hK, hN⟩ := hv
  have hx := B.exec
  have hb := B.bytes
  have hr := B.returns
  have hts0 := atoms_spec (ws := (Cond.code yX12_of cX12_of 3 (some .int) :: lw_all)) B.pre
  have hown : s.vm.findClass RX12 = some m.cls := findClass_of_methodNamed B.named
  have hlocks := B.notSynchronized
  subst hsz
  have F : pt_F p m c cX12_of 3 s _ RX12 D cA := ⟨⟨hx, hb, hml, hown, fun w h => hts0 w (List.mem_cons_of_mem _ h)⟩, hK⟩
  have hD : ∀ M, va_D (rt_fr ad s.heap.size) (rt_W cA ad M) := rt_D hI (fun k h => Or.inl ⟨k, h, rfl⟩)
  have hS : va_S (rt_fr ad s.heap.size) s.heap s.heap [] := va_S.rf
  have hl := lv_entry ([.ref (ad 0), .int p1, .int p2]) (n := 3) (Nat.le_of_ble_eq_true rfl)
  rw [lg_entry_eq]
  generalize (lg_sl ([.ref (ad 0), .int p1, .int p2]) ++ List.replicate (3 - (lg_sl ([.ref (ad 0), .int p1, .int p2])).length) Slot.unset).toArray = ls at hl ⊢
  have hl : lv_has ls 3 [(0, .ref (ad 0)), (1, .int p1), (2, .int p2)] := hl
  have J58 : ∀ (xs0 : Int32) (M : pt_M) (H : Heap) (locs : List Loc) (ls : Array Slot), wjX12_of_58 p1 p2 Q xs0 M → va_P D pt_cl (rt_W cA ad M) H → va_S (rt_fr ad s.heap.size) s.heap H locs → lv_has ls 3 [] → W p l e (headSpec (Cond.code yX12_of cX12_of 3 (some .int) :: lw_all) ({ frames := 6, cells := 0, slots := 0, locals := 129 } : Room)).room s m ([.ref (ad 0), .int p1, .int p2] : List Value).toArray below meth c H locs 0 0 (MQ below (va_Qi Q (rt_B D cA ad) (rt_fr ad s.heap.size)) ([.ref (ad 0), .int p1, .int p2] : List Value).toArray s 0 0 (rt_fr ad s.heap.size)) (F0 m 58 ls [.int xs0]) := by
    intro xs0 M H locs ls hw hP hS hl
    unfold wjX12_of_58 at hw
    exact W.iret (v := xs0) hx hb hr (fun t ht hW => ⟨⟨xs0, M, rfl, hw, by unfold rt_B; rw [ht]; exact hP⟩, hS.F ht⟩) hS.2.2 dX12_of_58
  unfold wpX12_of at hw
  refine lv_iload_n hx hb dX12_of_0 rfl (lv_at hl 2 rfl) ?_
  refine lv_if_ne (tgt := 15) hx hb dX12_of_1 (by decide) (fun hc1 => ?_) (fun hc1 => ?_)
  · replace hw := hw.1 hc1
    refine lv_iload_n hx hb dX12_of_15 rfl (lv_at hl 2 rfl) ?_
    refine lv_iconst (v := 1) hx hb dX12_of_16 (by decide) ?_
    refine lv_icmp_ne (tgt := 31) hx hb dX12_of_17 (by decide) (fun hc17 => ?_) (fun hc17 => ?_)
    · replace hw := hw.1 hc17
      refine lv_iload_n hx hb dX12_of_31 rfl (lv_at hl 2 rfl) ?_
      refine lv_iconst (v := 2) hx hb dX12_of_32 (by decide) ?_
      refine lv_icmp_ne (tgt := 47) hx hb dX12_of_33 (by decide) (fun hc33 => ?_) (fun hc33 => ?_)
      · replace hw := hw.1 hc33
        refine lv_aload_n hx hb dX12_of_47 rfl (lv_at hl 0 rfl) ?_
        refine rt_get F hP (rt_c12 _ rt_k0) (rt_l12 rt_k0) inX12 rfl 1 (by decide) kw_1140 rfl rfl dX12_of_48 ?_
        refine lv_iload_n hx hb dX12_of_51 rfl (lv_at hl 1 rfl) ?_
        refine rt_calli (rt_runV (n := 1) (As := [.int p1]) (rest := []) F hP hN hS (rt_frs hS.1) (rt_c8 _ rt_k1) (rt_l8 rt_k1) rfl (mtX8_parts l D cA ad hI _ p1 M _ hw) kw_1214 kw_1211 kw_61 kw_1212 kw_1213 ⟨by decide, by decide, by decide +kernel⟩ ⟨rfl, rfl, Nat.le_of_ble_eq_true rfl, Nat.le_of_ble_eq_true rfl⟩ rfl hl.1 rfl (Nat.le_of_ble_eq_true rfl) dX12_of_52 ⟨Nat.zero_le _, Nat.zero_le _⟩) hS (fun _ h => h) (fun r_52 M_52 H locs hw hP hS _ _ => ?_)
        refine rt_callp (pt_runP (n := 1) (As := [.int r_52]) (rest := []) F (mtPJ6_bitCount l D cA r_52 M_52 _ hw) rt_kblind (fun U _ hW => va_K.moved hW.alike F.2) kw_443 kw_1445 kw_80 kw_442 ⟨by decide, by decide, by decide +kernel⟩ ⟨rfl, rfl, (Nat.le_of_ble_eq_true rfl), (Nat.le_of_ble_eq_true rfl)⟩ rfl hl.1 rfl (Nat.le_of_ble_eq_true rfl) dX12_of_55 ⟨Nat.zero_le _, Nat.zero_le _⟩) hP hS (fun r_55 H locs hw hP hS => ?_)
        exact J58 r_55 M_52 _ _ _ hw hP hS (lv_sub hl [] rfl)
      · replace hw := hw.2 hc33
        refine lv_aload_n hx hb dX12_of_36 rfl (lv_at hl 0 rfl) ?_
        refine rt_get F hP (rt_c12 _ rt_k0) (rt_l12 rt_k0) inX12 rfl 1 (by decide) kw_1140 rfl rfl dX12_of_37 ?_
        refine lv_iload_n hx hb dX12_of_40 rfl (lv_at hl 1 rfl) ?_
        refine rt_calli (rt_runV (n := 1) (As := [.int p1]) (rest := []) F hP hN hS (rt_frs hS.1) (rt_c8 _ rt_k1) (rt_l8 rt_k1) rfl (mtX8_first l D cA ad hI _ p1 M _ hw) kw_1230 kw_1227 kw_61 kw_1228 kw_1229 ⟨by decide, by decide, by decide +kernel⟩ ⟨rfl, rfl, Nat.le_of_ble_eq_true rfl, Nat.le_of_ble_eq_true rfl⟩ rfl hl.1 rfl (Nat.le_of_ble_eq_true rfl) dX12_of_41 ⟨Nat.zero_le _, Nat.zero_le _⟩) hS (fun _ h => h) (fun r_41 M_41 H locs hw hP hS _ _ => ?_)
        refine lv_goto (tgt := 58) hx hb dX12_of_44 (by decide) ?_
        exact J58 r_41 M_41 _ _ _ hw hP hS (lv_sub hl [] rfl)
    · replace hw := hw.2 hc17
      refine lv_aload_n hx hb dX12_of_20 rfl (lv_at hl 0 rfl) ?_
      refine rt_get F hP (rt_c12 _ rt_k0) (rt_l12 rt_k0) inX12 rfl 1 (by decide) kw_1140 rfl rfl dX12_of_21 ?_
      refine lv_iload_n hx hb dX12_of_24 rfl (lv_at hl 1 rfl) ?_
      refine rt_calli (rt_runV (n := 1) (As := [.int p1]) (rest := []) F hP hN hS (rt_frs hS.1) (rt_c8 _ rt_k1) (rt_l8 rt_k1) rfl (mtX8_parent l D cA ad hI _ p1 M _ hw) kw_1219 kw_1482 kw_61 kw_1217 kw_1218 ⟨by decide, by decide, by decide +kernel⟩ ⟨rfl, rfl, Nat.le_of_ble_eq_true rfl, Nat.le_of_ble_eq_true rfl⟩ rfl hl.1 rfl (Nat.le_of_ble_eq_true rfl) dX12_of_25 ⟨Nat.zero_le _, Nat.zero_le _⟩) hS (fun _ h => h) (fun r_25 M_25 H locs hw hP hS _ _ => ?_)
      refine lv_goto (tgt := 58) hx hb dX12_of_28 (by decide) ?_
      exact J58 r_25 M_25 _ _ _ hw hP hS (lv_sub hl [] rfl)
  · replace hw := hw.2 hc1
    refine lv_aload_n hx hb dX12_of_4 rfl (lv_at hl 0 rfl) ?_
    refine rt_get F hP (rt_c12 _ rt_k0) (rt_l12 rt_k0) inX12 rfl 1 (by decide) kw_1140 rfl rfl dX12_of_5 ?_
    refine lv_iload_n hx hb dX12_of_8 rfl (lv_at hl 1 rfl) ?_
    refine rt_calli (rt_runV (n := 1) (As := [.int p1]) (rest := []) F hP hN hS (rt_frs hS.1) (rt_c8 _ rt_k1) (rt_l8 rt_k1) rfl (mtX8_kind l D cA ad hI _ p1 M _ hw) kw_1204 kw_1201 kw_61 kw_1202 kw_1203 ⟨by decide, by decide, by decide +kernel⟩ ⟨rfl, rfl, Nat.le_of_ble_eq_true rfl, Nat.le_of_ble_eq_true rfl⟩ rfl hl.1 rfl (Nat.le_of_ble_eq_true rfl) dX12_of_9 ⟨Nat.zero_le _, Nat.zero_le _⟩) hS (fun _ h => h) (fun r_9 M_9 H locs hw hP hS _ _ => ?_)
    refine lv_goto (tgt := 58) hx hb dX12_of_12 (by decide) ?_
    exact J58 r_9 M_9 _ _ _ hw hP hS (lv_sub hl [] rfl)
-- ===== X12_ofState
def wjX12_ofState_45 (p1 : Int32) (p2 : Int32) (Q : Int32 → pt_M → Prop)  (xs0 : Int32) (M : pt_M) : Prop :=
  Q xs0 M
def wjX12_ofState_35 (p1 : Int32) (p2 : Int32) (Q : Int32 → pt_M → Prop)   (M : pt_M) : Prop :=
  wjX12_ofState_45 p1 p2 Q 0 M
def wjX12_ofState_28 (p1 : Int32) (p2 : Int32) (Q : Int32 → pt_M → Prop)  (xs1 : Int32) (M : pt_M) : Prop :=
  wpX12_refuse xs1 2 M (fun (r_29 : Int32) (M_29 : pt_M) => (r_29 = 0 → wpX12_of p1 p2 M_29 (fun (r_42 : Int32) (M_42 : pt_M) => wjX12_ofState_45 p1 p2 Q r_42 M_42)) ∧ (¬ r_29 = 0 → wjX12_ofState_35 p1 p2 Q M_29))
def wpX12_ofState (p1 : Int32) (p2 : Int32) (M : pt_M) (Q : Int32 → pt_M → Prop) : Prop :=
  wpX12_isNoState p1 M (fun (r_3 : Int32) (M_3 : pt_M) => wpX12_start r_3 1 M_3 (fun (r_7 : Int32) (M_7 : pt_M) => (¬ r_7 = 0 → wjX12_ofState_35 p1 p2 Q M_7) ∧ (r_7 = 0 → wpX12_isIn p2 0 3 M_7 (fun (r_17 : Int32) (M_17 : pt_M) => (¬ r_17 = 0 → wjX12_ofState_28 p1 p2 Q 0 M_17) ∧ (r_17 = 0 → wjX12_ofState_28 p1 p2 Q 1 M_17)))))
set_option maxHeartbeats 4000000 in
set_option maxRecDepth 100000 in
theorem mtX12_ofState (l : Launch) (D : va_G) (cA : Nat → ClassId) (ad : Nat → Nat) (hI : rt_I ad) (sz : Nat) (p1 : Int32) (p2 : Int32) (M : pt_M) (Q : Int32 → pt_M → Prop) (hw : wpX12_ofState p1 p2 M Q) : Met l yX12_ofState (Cond.code yX12_ofState cX12_ofState 3 (some .int) :: lw_all) ({ frames := 7, cells := 0, slots := 0, locals := 151 } : Room) (va_Pc [.ref (ad 0), .int p1, .int p2] (rt_P D cA ad sz M)) (va_Qi Q (rt_B D cA ad) (rt_fr ad sz)) 0 0 (rt_fr ad sz) := by
  refine Met.ofW (cc := cX12_ofState) (maxL := 3) (ret := (some .int)) (by decide) rfl ?_
  intro p e s m args below meth c s₁ B hml hv
  obtain ⟨rfl, hsz, hP, hK, hN⟩ := hv
  have hx := B.exec
  have hb := B.bytes
  have hr := B.returns
  have hts0 := atoms_spec (ws := (Cond.code yX12_ofState cX12_ofState 3 (some .int) :: lw_all)) B.pre
  have hown : s.vm.findClass RX12 = some m.cls := findClass_of_methodNamed B.named
  have hlocks := B.notSynchronized
  subst hsz
  have F : pt_F p m c cX12_ofState 3 s _ RX12 D cA := ⟨⟨hx, hb, hml, hown, fun w h => hts0 w (List.mem_cons_of_mem _ h)⟩, hK⟩
  have hD : ∀ M, va_D (rt_fr ad s.heap.size) (rt_W cA ad M) := rt_D hI (fun k h => Or.inl ⟨k, h, rfl⟩)
  have hS : va_S (rt_fr ad s.heap.size) s.heap s.heap [] := va_S.rf
  have hl := lv_entry ([.ref (ad 0), .int p1, .int p2]) (n := 3) (Nat.le_of_ble_eq_true rfl)
  rw [lg_entry_eq]
  generalize (lg_sl ([.ref (ad 0), .int p1, .int p2]) ++ List.replicate (3 - (lg_sl ([.ref (ad 0), .int p1, .int p2])).length) Slot.unset).toArray = ls at hl ⊢
  have hl : lv_has ls 3 [(0, .ref (ad 0)), (1, .int p1), (2, .int p2)] := hl
  have J45 : ∀ (xs0 : Int32) (M : pt_M) (H : Heap) (locs : List Loc) (ls : Array Slot), wjX12_ofState_45 p1 p2 Q xs0 M → va_P D pt_cl (rt_W cA ad M) H → va_S (rt_fr ad s.heap.size) s.heap H locs → lv_has ls 3 [] → W p l e (headSpec (Cond.code yX12_ofState cX12_ofState 3 (some .int) :: lw_all) ({ frames := 7, cells := 0, slots := 0, locals := 151 } : Room)).room s m ([.ref (ad 0), .int p1, .int p2] : List Value).toArray below meth c H locs 0 0 (MQ below (va_Qi Q (rt_B D cA ad) (rt_fr ad s.heap.size)) ([.ref (ad 0), .int p1, .int p2] : List Value).toArray s 0 0 (rt_fr ad s.heap.size)) (F0 m 45 ls [.int xs0]) := by
    intro xs0 M H locs ls hw hP hS hl
    unfold wjX12_ofState_45 at hw
    exact W.iret (v := xs0) hx hb hr (fun t ht hW => ⟨⟨xs0, M, rfl, hw, by unfold rt_B; rw [ht]; exact hP⟩, hS.F ht⟩) hS.2.2 dX12_ofState_45
  have J35 : ∀ (M : pt_M) (H : Heap) (locs : List Loc) (ls : Array Slot), wjX12_ofState_35 p1 p2 Q M → va_P D pt_cl (rt_W cA ad M) H → va_S (rt_fr ad s.heap.size) s.heap H locs → lv_has ls 3 [] → W p l e (headSpec (Cond.code yX12_ofState cX12_ofState 3 (some .int) :: lw_all) ({ frames := 7, cells := 0, slots := 0, locals := 151 } : Room)).room s m ([.ref (ad 0), .int p1, .int p2] : List Value).toArray below meth c H locs 0 0 (MQ below (va_Qi Q (rt_B D cA ad) (rt_fr ad s.heap.size)) ([.ref (ad 0), .int p1, .int p2] : List Value).toArray s 0 0 (rt_fr ad s.heap.size)) (F0 m 35 ls []) := by
    intro M H locs ls hw hP hS hl
    unfold wjX12_ofState_35 at hw
    refine lv_iconst (v := 0) hx hb dX12_ofState_35 (by decide) ?_
    refine lv_goto (tgt := 45) hx hb dX12_ofState_36 (by decide) ?_
    exact J45 0 M _ _ _ hw hP hS (lv_sub hl [] rfl)
  have J28 : ∀ (xs1 : Int32) (M : pt_M) (H : Heap) (locs : List Loc) (ls : Array Slot), wjX12_ofState_28 p1 p2 Q xs1 M → va_P D pt_cl (rt_W cA ad M) H → va_S (rt_fr ad s.heap.size) s.heap H locs → lv_has ls 3 [(0, .ref (ad 0)), (1, .int p1), (2, .int p2)] → W p l e (headSpec (Cond.code yX12_ofState cX12_ofState 3 (some .int) :: lw_all) ({ frames := 7, cells := 0, slots := 0, locals := 151 } : Room)).room s m ([.ref (ad 0), .int p1, .int p2] : List Value).toArray below meth c H locs 0 0 (MQ below (va_Qi Q (rt_B D cA ad) (rt_fr ad s.heap.size)) ([.ref (ad 0), .int p1, .int p2] : List Value).toArray s 0 0 (rt_fr ad s.heap.size)) (F0 m 28 ls [.int xs1, .ref (ad 0)]) := by
    intro xs1 M H locs ls hw hP hS hl
    unfold wjX12_ofState_28 at hw
    refine lv_iconst (v := 2) hx hb dX12_ofState_28 (by decide) ?_
    refine rt_calli (rt_runV (n := 2) (As := [.int xs1, .int 2]) (rest := []) F hP hN hS (rt_frs hS.1) (rt_c12 _ rt_k0) (rt_l12 rt_k0) rfl (mtX12_refuse l D cA ad hI _ xs1 2 M _ hw) kw_1175 kw_1172 kw_60 kw_1174 kw_29 ⟨by decide, by decide, by decide +kernel⟩ ⟨rfl, rfl, Nat.le_of_ble_eq_true rfl, Nat.le_of_ble_eq_true rfl⟩ rfl hl.1 rfl (Nat.le_of_ble_eq_true rfl) dX12_ofState_29 ⟨Nat.zero_le _, Nat.zero_le _⟩) hS (fun _ h => h) (fun r_29 M_29 H locs hw hP hS _ _ => ?_)
    refine lv_if_eq (tgt := 39) hx hb dX12_ofState_32 (by decide) (fun hc32 => ?_) (fun hc32 => ?_)
    · replace hw := hw.1 hc32
      refine lv_aload_n hx hb dX12_ofState_39 rfl (lv_at hl 0 rfl) ?_
      refine lv_iload_n hx hb dX12_ofState_40 rfl (lv_at hl 1 rfl) ?_
      refine lv_iload_n hx hb dX12_ofState_41 rfl (lv_at hl 2 rfl) ?_
      refine rt_calli (rt_runV (n := 2) (As := [.int p1, .int p2]) (rest := []) F hP hN hS (rt_frs hS.1) (rt_c12 _ rt_k0) (rt_l12 rt_k0) rfl (mtX12_of l D cA ad hI _ p1 p2 M_29 _ hw) kw_1481 kw_1478 kw_60 kw_1480 kw_45 ⟨by decide, by decide, by decide +kernel⟩ ⟨rfl, rfl, Nat.le_of_ble_eq_true rfl, Nat.le_of_ble_eq_true rfl⟩ rfl hl.1 rfl (Nat.le_of_ble_eq_true rfl) dX12_ofState_42 ⟨Nat.zero_le _, Nat.zero_le _⟩) hS (fun _ h => h) (fun r_42 M_42 H locs hw hP hS _ _ => ?_)
      exact J45 r_42 M_42 _ _ _ hw hP hS (lv_sub hl [] rfl)
    · replace hw := hw.2 hc32
      exact J35 M_29 _ _ _ hw hP hS (lv_sub hl [] rfl)
  unfold wpX12_ofState at hw
  refine lv_aload_n hx hb dX12_ofState_0 rfl (lv_at hl 0 rfl) ?_
  refine lv_aload_n hx hb dX12_ofState_1 rfl (lv_at hl 0 rfl) ?_
  refine lv_iload_n hx hb dX12_ofState_2 rfl (lv_at hl 1 rfl) ?_
  refine rt_calli (rt_runV (n := 1) (As := [.int p1]) (rest := [.ref (ad 0)]) F hP hN hS (rt_frs hS.1) (rt_c12 _ rt_k0) (rt_l12 rt_k0) rfl (mtX12_isNoState l D cA ad hI _ p1 M _ hw) kw_1179 kw_1176 kw_60 kw_1178 kw_30 ⟨by decide, by decide, by decide +kernel⟩ ⟨rfl, rfl, Nat.le_of_ble_eq_true rfl, Nat.le_of_ble_eq_true rfl⟩ rfl hl.1 rfl (Nat.le_of_ble_eq_true rfl) dX12_ofState_3 ⟨Nat.zero_le _, Nat.zero_le _⟩) hS (fun _ h => h) (fun r_3 M_3 H locs hw hP hS _ _ => ?_)
  refine lv_iconst (v := 1) hx hb dX12_ofState_6 (by decide) ?_
  refine rt_calli (rt_runV (n := 2) (As := [.int r_3, .int 1]) (rest := []) F hP hN hS (rt_frs hS.1) (rt_c12 _ rt_k0) (rt_l12 rt_k0) rfl (mtX12_start l D cA ad hI _ r_3 1 M_3 _ hw) kw_1171 kw_1168 kw_60 kw_1170 kw_28 ⟨by decide, by decide, by decide +kernel⟩ ⟨rfl, rfl, Nat.le_of_ble_eq_true rfl, Nat.le_of_ble_eq_true rfl⟩ rfl hl.1 rfl (Nat.le_of_ble_eq_true rfl) dX12_ofState_7 ⟨Nat.zero_le _, Nat.zero_le _⟩) hS (fun _ h => h) (fun r_7 M_7 H locs hw hP hS _ _ => ?_)
  refine lv_if_ne (tgt := 35) hx hb dX12_ofState_10 (by decide) (fun hc10 => ?_) (fun hc10 => ?_)
  · replace hw := hw.1 hc10
    exact J35 M_7 _ _ _ hw hP hS (lv_sub hl [] rfl)
  · replace hw := hw.2 hc10
    refine lv_aload_n hx hb dX12_ofState_13 rfl (lv_at hl 0 rfl) ?_
    refine lv_iload_n hx hb dX12_ofState_14 rfl (lv_at hl 2 rfl) ?_
    refine lv_iconst (v := 0) hx hb dX12_ofState_15 (by decide) ?_
    refine lv_iconst (v := 3) hx hb dX12_ofState_16 (by decide) ?_
    refine rt_calli (rt_runS (n := 3) (As := [.int p2, .int 0, .int 3]) (rest := [.ref (ad 0)]) F hP hN hS (rt_frs hS.1) (mtX12_isIn l D cA ad hI _ p2 0 3 M_7 _ hw) kw_1182 kw_1180 kw_60 kw_1181 ⟨by decide, by decide, by decide +kernel⟩ ⟨rfl, rfl, Nat.le_of_ble_eq_true rfl, Nat.le_of_ble_eq_true rfl⟩ rfl hl.1 rfl (Nat.le_of_ble_eq_true rfl) dX12_ofState_17 ⟨Nat.zero_le _, Nat.zero_le _⟩) hS (fun _ h => h) (fun r_17 M_17 H locs hw hP hS _ _ => ?_)
    refine lv_if_ne (tgt := 27) hx hb dX12_ofState_20 (by decide) (fun hc20 => ?_) (fun hc20 => ?_)
    · replace hw := hw.1 hc20
      refine lv_iconst (v := 0) hx hb dX12_ofState_27 (by decide) ?_
      exact J28 0 M_17 _ _ _ hw hP hS (lv_sub hl [0, 1, 2] rfl)
    · replace hw := hw.2 hc20
      refine lv_iconst (v := 1) hx hb dX12_ofState_23 (by decide) ?_
      refine lv_goto (tgt := 28) hx hb dX12_ofState_24 (by decide) ?_
      exact J28 1 M_17 _ _ _ hw hP hS (lv_sub hl [0, 1, 2] rfl)
-- ===== X12_isRunning
def wpX12_isRunning  (M : pt_M) (Q : Int32 → pt_M → Prop) : Prop :=
  ∀ M_2 : pt_M, M_2 = pt_st M 0 0 0 → pt_zb (M_2 6 0) ∧ Q (M_2 6 0) M_2
set_option maxHeartbeats 4000000 in
set_option maxRecDepth 100000 in
theorem mtX12_isRunning (l : Launch) (D : va_G) (cA : Nat → ClassId) (ad : Nat → Nat) (hI : rt_I ad) (sz : Nat) (M : pt_M) (Q : Int32 → pt_M → Prop) (hw : wpX12_isRunning M Q) : Met l yX12_isRunning (Cond.code yX12_isRunning cX12_isRunning 1 (some .boolean) :: lw_all) ({ frames := 0, cells := 0, slots := 0, locals := 0 } : Room) (va_Pc [.ref (ad 0)] (rt_P D cA ad sz M)) (va_Qi Q (rt_B D cA ad) (rt_fr ad sz)) 0 0 (rt_fr ad sz) := by
  refine Met.ofW (cc := cX12_isRunning) (maxL := 1) (ret := (some .boolean)) (by decide) rfl ?_
  intro p e s m args below meth c s₁ B hml hv
  obtain ⟨rfl, hsz, hP, hK, hN⟩ := hv
  have hx := B.exec
  have hb := B.bytes
  have hr := B.returns
  have hts0 := atoms_spec (ws := (Cond.code yX12_isRunning cX12_isRunning 1 (some .boolean) :: lw_all)) B.pre
  have hown : s.vm.findClass RX12 = some m.cls := findClass_of_methodNamed B.named
  have hlocks := B.notSynchronized
  subst hsz
  have F : pt_F p m c cX12_isRunning 1 s _ RX12 D cA := ⟨⟨hx, hb, hml, hown, fun w h => hts0 w (List.mem_cons_of_mem _ h)⟩, hK⟩
  have hD : ∀ M, va_D (rt_fr ad s.heap.size) (rt_W cA ad M) := rt_D hI (fun k h => Or.inl ⟨k, h, rfl⟩)
  have hS : va_S (rt_fr ad s.heap.size) s.heap s.heap [] := va_S.rf
  have hl := lv_entry ([.ref (ad 0)]) (n := 1) (Nat.le_of_ble_eq_true rfl)
  rw [lg_entry_eq]
  generalize (lg_sl ([.ref (ad 0)]) ++ List.replicate (1 - (lg_sl ([.ref (ad 0)])).length) Slot.unset).toArray = ls at hl ⊢
  have hl : lv_has ls 1 [(0, .ref (ad 0))] := hl
  unfold wpX12_isRunning at hw
  refine lv_aload_n hx hb dX12_isRunning_0 rfl (lv_at hl 0 rfl) ?_
  refine lv_iconst (v := 0) hx hb dX12_isRunning_1 (by decide) ?_
  refine rt_put F hP hD hS (rt_c12 _ rt_k0) (rt_l12 rt_k0) inX12 tyX12 tyX12_ok nmX12 rfl 0 (by decide) kw_1139 rfl rfl rfl rfl (Nat.le_of_ble_eq_true rfl) (rt_c12 _ rt_k0) dX12_isRunning_2 (fun M_2 H locs eM_2 hP hS => ?_)
  replace hw := hw M_2 eM_2
  refine lv_aload_n hx hb dX12_isRunning_5 rfl (lv_at hl 0 rfl) ?_
  refine rt_get F hP (rt_c12 _ rt_k0) (rt_l12 rt_k0) inX12 rfl 2 (by decide) kw_1142 rfl rfl dX12_isRunning_6 ?_
  refine rt_get F hP (rt_c9 _ rt_k6) (rt_l9 rt_k6) inX9 rfl 0 (by decide) kw_1004 rfl rfl dX12_isRunning_9 ?_
  exact W.zret (v := (M_2 6 0)) (ty := .boolean) hx hb hr (pt_zb_n hw.1) (fun t ht hW => ⟨⟨(M_2 6 0), M_2, rfl, hw.2, by unfold rt_B; rw [ht]; exact hP⟩, hS.F ht⟩) hS.2.2 dX12_isRunning_12
-- ===== X12_active
def wpX12_active  (M : pt_M) (Q : Int32 → pt_M → Prop) : Prop :=
  wpX12_plain (M 6 1) M (fun (r_8 : Int32) (M_8 : pt_M) => Q r_8 M_8)
set_option maxHeartbeats 4000000 in
set_option maxRecDepth 100000 in
theorem mtX12_active (l : Launch) (D : va_G) (cA : Nat → ClassId) (ad : Nat → Nat) (hI : rt_I ad) (sz : Nat) (M : pt_M) (Q : Int32 → pt_M → Prop) (hw : wpX12_active M Q) : Met l yX12_active (Cond.code yX12_active cX12_active 1 (some .int) :: lw_all) ({ frames := 1, cells := 0, slots := 0, locals := 21 } : Room) (va_Pc [.ref (ad 0)] (rt_P D cA ad sz M)) (va_Qi Q (rt_B D cA ad) (rt_fr ad sz)) 0 0 (rt_fr ad sz) := by
  refine Met.ofW (cc := cX12_active) (maxL := 1) (ret := (some .int)) (by decide) rfl ?_
  intro p e s m args below meth c s₁ B hml hv
  obtain ⟨rfl, hsz, hP, hK, hN⟩ := hv
  have hx := B.exec
  have hb := B.bytes
  have hr := B.returns
  have hts0 := atoms_spec (ws := (Cond.code yX12_active cX12_active 1 (some .int) :: lw_all)) B.pre
  have hown : s.vm.findClass RX12 = some m.cls := findClass_of_methodNamed B.named
  have hlocks := B.notSynchronized
  subst hsz
  have F : pt_F p m c cX12_active 1 s _ RX12 D cA := ⟨⟨hx, hb, hml, hown, fun w h => hts0 w (List.mem_cons_of_mem _ h)⟩, hK⟩
  have hD : ∀ M, va_D (rt_fr ad s.heap.size) (rt_W cA ad M) := rt_D hI (fun k h => Or.inl ⟨k, h, rfl⟩)
  have hS : va_S (rt_fr ad s.heap.size) s.heap s.heap [] := va_S.rf
  have hl := lv_entry ([.ref (ad 0)]) (n := 1) (Nat.le_of_ble_eq_true rfl)
  rw [lg_entry_eq]
  generalize (lg_sl ([.ref (ad 0)]) ++ List.replicate (1 - (lg_sl ([.ref (ad 0)])).length) Slot.unset).toArray = ls at hl ⊢
  have hl : lv_has ls 1 [(0, .ref (ad 0))] := hl
  unfold wpX12_active at hw
  refine lv_aload_n hx hb dX12_active_0 rfl (lv_at hl 0 rfl) ?_
  refine lv_aload_n hx hb dX12_active_1 rfl (lv_at hl 0 rfl) ?_
  refine rt_get F hP (rt_c12 _ rt_k0) (rt_l12 rt_k0) inX12 rfl 2 (by decide) kw_1142 rfl rfl dX12_active_2 ?_
  refine rt_get F hP (rt_c9 _ rt_k6) (rt_l9 rt_k6) inX9 rfl 1 (by decide) kw_1006 rfl rfl dX12_active_5 ?_
  refine rt_calli (rt_runV (n := 1) (As := [.int (M 6 1)]) (rest := []) F hP hN hS (rt_frs hS.1) (rt_c12 _ rt_k0) (rt_l12 rt_k0) rfl (mtX12_plain l D cA ad hI _ (M 6 1) M _ hw) kw_1469 kw_1466 kw_60 kw_1468 kw_44 ⟨by decide, by decide, by decide +kernel⟩ ⟨rfl, rfl, Nat.le_of_ble_eq_true rfl, Nat.le_of_ble_eq_true rfl⟩ rfl hl.1 rfl (Nat.le_of_ble_eq_true rfl) dX12_active_8 ⟨Nat.zero_le _, Nat.zero_le _⟩) hS (fun _ h => h) (fun r_8 M_8 H locs hw hP hS _ _ => ?_)
  exact W.iret (v := r_8) hx hb hr (fun t ht hW => ⟨⟨r_8, M_8, rfl, hw, by unfold rt_B; rw [ht]; exact hP⟩, hS.F ht⟩) hS.2.2 dX12_active_11
-- ===== X12_isOver
def wjX12_isOver_30  (Q : Int32 → pt_M → Prop)  (xs0 : Int32) (M : pt_M) : Prop :=
  pt_zb xs0 ∧ Q xs0 M
def wjX12_isOver_29  (Q : Int32 → pt_M → Prop)   (M : pt_M) : Prop :=
  wjX12_isOver_30 Q 0 M
def wpX12_isOver  (M : pt_M) (Q : Int32 → pt_M → Prop) : Prop :=
  ∀ M_2 : pt_M, M_2 = pt_st M 0 0 0 → ((M_2 6 0) = 0 → wjX12_isOver_29 Q M_2) ∧ (¬ (M_2 6 0) = 0 → wpX9_isOver M_2 (fun (r_19 : Int32) (M_19 : pt_M) => (r_19 = 0 → wjX12_isOver_29 Q M_19) ∧ (¬ r_19 = 0 → wjX12_isOver_30 Q 1 M_19)))
set_option maxHeartbeats 4000000 in
set_option maxRecDepth 100000 in
theorem mtX12_isOver (l : Launch) (D : va_G) (cA : Nat → ClassId) (ad : Nat → Nat) (hI : rt_I ad) (sz : Nat) (M : pt_M) (Q : Int32 → pt_M → Prop) (hw : wpX12_isOver M Q) : Met l yX12_isOver (Cond.code yX12_isOver cX12_isOver 1 (some .boolean) :: lw_all) ({ frames := 5, cells := 0, slots := 0, locals := 106 } : Room) (va_Pc [.ref (ad 0)] (rt_P D cA ad sz M)) (va_Qi Q (rt_B D cA ad) (rt_fr ad sz)) 0 0 (rt_fr ad sz) := by
  refine Met.ofW (cc := cX12_isOver) (maxL := 1) (ret := (some .boolean)) (by decide) rfl ?_
  intro p e s m args below meth c s₁ B hml hv
  obtain ⟨rfl, hsz, hP, hK, hN⟩ := hv
  have hx := B.exec
  have hb := B.bytes
  have hr := B.returns
  have hts0 := atoms_spec (ws := (Cond.code yX12_isOver cX12_isOver 1 (some .boolean) :: lw_all)) B.pre
  have hown : s.vm.findClass RX12 = some m.cls := findClass_of_methodNamed B.named
  have hlocks := B.notSynchronized
  subst hsz
  have F : pt_F p m c cX12_isOver 1 s _ RX12 D cA := ⟨⟨hx, hb, hml, hown, fun w h => hts0 w (List.mem_cons_of_mem _ h)⟩, hK⟩
  have hD : ∀ M, va_D (rt_fr ad s.heap.size) (rt_W cA ad M) := rt_D hI (fun k h => Or.inl ⟨k, h, rfl⟩)
  have hS : va_S (rt_fr ad s.heap.size) s.heap s.heap [] := va_S.rf
  have hl := lv_entry ([.ref (ad 0)]) (n := 1) (Nat.le_of_ble_eq_true rfl)
  rw [lg_entry_eq]
  generalize (lg_sl ([.ref (ad 0)]) ++ List.replicate (1 - (lg_sl ([.ref (ad 0)])).length) Slot.unset).toArray = ls at hl ⊢
  have hl : lv_has ls 1 [(0, .ref (ad 0))] := hl
  have J30 : ∀ (xs0 : Int32) (M : pt_M) (H : Heap) (locs : List Loc) (ls : Array Slot), wjX12_isOver_30 Q xs0 M → va_P D pt_cl (rt_W cA ad M) H → va_S (rt_fr ad s.heap.size) s.heap H locs → lv_has ls 1 [] → W p l e (headSpec (Cond.code yX12_isOver cX12_isOver 1 (some .boolean) :: lw_all) ({ frames := 5, cells := 0, slots := 0, locals := 106 } : Room)).room s m ([.ref (ad 0)] : List Value).toArray below meth c H locs 0 0 (MQ below (va_Qi Q (rt_B D cA ad) (rt_fr ad s.heap.size)) ([.ref (ad 0)] : List Value).toArray s 0 0 (rt_fr ad s.heap.size)) (F0 m 30 ls [.int xs0]) := by
    intro xs0 M H locs ls hw hP hS hl
    unfold wjX12_isOver_30 at hw
    exact W.zret (v := xs0) (ty := .boolean) hx hb hr (pt_zb_n hw.1) (fun t ht hW => ⟨⟨xs0, M, rfl, hw.2, by unfold rt_B; rw [ht]; exact hP⟩, hS.F ht⟩) hS.2.2 dX12_isOver_30
  have J29 : ∀ (M : pt_M) (H : Heap) (locs : List Loc) (ls : Array Slot), wjX12_isOver_29 Q M → va_P D pt_cl (rt_W cA ad M) H → va_S (rt_fr ad s.heap.size) s.heap H locs → lv_has ls 1 [] → W p l e (headSpec (Cond.code yX12_isOver cX12_isOver 1 (some .boolean) :: lw_all) ({ frames := 5, cells := 0, slots := 0, locals := 106 } : Room)).room s m ([.ref (ad 0)] : List Value).toArray below meth c H locs 0 0 (MQ below (va_Qi Q (rt_B D cA ad) (rt_fr ad s.heap.size)) ([.ref (ad 0)] : List Value).toArray s 0 0 (rt_fr ad s.heap.size)) (F0 m 29 ls []) := by
    intro M H locs ls hw hP hS hl
    unfold wjX12_isOver_29 at hw
    refine lv_iconst (v := 0) hx hb dX12_isOver_29 (by decide) ?_
    exact J30 0 M _ _ _ hw hP hS (lv_sub hl [] rfl)
  unfold wpX12_isOver at hw
  refine lv_aload_n hx hb dX12_isOver_0 rfl (lv_at hl 0 rfl) ?_
  refine lv_iconst (v := 0) hx hb dX12_isOver_1 (by decide) ?_
  refine rt_put F hP hD hS (rt_c12 _ rt_k0) (rt_l12 rt_k0) inX12 tyX12 tyX12_ok nmX12 rfl 0 (by decide) kw_1139 rfl rfl rfl rfl (Nat.le_of_ble_eq_true rfl) (rt_c12 _ rt_k0) dX12_isOver_2 (fun M_2 H locs eM_2 hP hS => ?_)
  replace hw := hw M_2 eM_2
  refine lv_aload_n hx hb dX12_isOver_5 rfl (lv_at hl 0 rfl) ?_
  refine rt_get F hP (rt_c12 _ rt_k0) (rt_l12 rt_k0) inX12 rfl 2 (by decide) kw_1142 rfl rfl dX12_isOver_6 ?_
  refine rt_get F hP (rt_c9 _ rt_k6) (rt_l9 rt_k6) inX9 rfl 0 (by decide) kw_1004 rfl rfl dX12_isOver_9 ?_
  refine lv_if_eq (tgt := 29) hx hb dX12_isOver_12 (by decide) (fun hc12 => ?_) (fun hc12 => ?_)
  · replace hw := hw.1 hc12
    exact J29 M_2 _ _ _ hw hP hS (lv_sub hl [] rfl)
  · replace hw := hw.2 hc12
    refine lv_aload_n hx hb dX12_isOver_15 rfl (lv_at hl 0 rfl) ?_
    refine rt_get F hP (rt_c12 _ rt_k0) (rt_l12 rt_k0) inX12 rfl 2 (by decide) kw_1142 rfl rfl dX12_isOver_16 ?_
    refine rt_calli (rt_runV (n := 0) (As := []) (rest := []) F hP hN hS (rt_frs hS.1) (rt_c9 _ rt_k6) (rt_l9 rt_k6) rfl (mtX9_isOver l D cA ad hI _ M_2 _ hw) kw_1358 kw_1495 kw_65 kw_1356 kw_1357 ⟨by decide, by decide, by decide +kernel⟩ ⟨rfl, rfl, Nat.le_of_ble_eq_true rfl, Nat.le_of_ble_eq_true rfl⟩ rfl hl.1 rfl (Nat.le_of_ble_eq_true rfl) dX12_isOver_19 ⟨Nat.zero_le _, Nat.zero_le _⟩) hS (fun _ h => h) (fun r_19 M_19 H locs hw hP hS _ _ => ?_)
    refine lv_if_eq (tgt := 29) hx hb dX12_isOver_22 (by decide) (fun hc22 => ?_) (fun hc22 => ?_)
    · replace hw := hw.1 hc22
      exact J29 M_19 _ _ _ hw hP hS (lv_sub hl [] rfl)
    · replace hw := hw.2 hc22
      refine lv_iconst (v := 1) hx hb dX12_isOver_25 (by decide) ?_
      refine lv_goto (tgt := 30) hx hb dX12_isOver_26 (by decide) ?_
      exact J30 1 M_19 _ _ _ hw hP hS (lv_sub hl [] rfl)
-- ===== X12_isEnded
def wjX12_isEnded_29 (p1 : Int32) (Q : Int32 → pt_M → Prop)  (xs0 : Int32) (M : pt_M) : Prop :=
  pt_zb xs0 ∧ Q xs0 M
def wjX12_isEnded_28 (p1 : Int32) (Q : Int32 → pt_M → Prop)   (M : pt_M) : Prop :=
  wjX12_isEnded_29 p1 Q 0 M
def wpX12_isEnded (p1 : Int32) (M : pt_M) (Q : Int32 → pt_M → Prop) : Prop :=
  wpX12_isNoState p1 M (fun (r_3 : Int32) (M_3 : pt_M) => wpX12_start r_3 1 M_3 (fun (r_7 : Int32) (M_7 : pt_M) => (¬ r_7 = 0 → wjX12_isEnded_28 p1 Q M_7) ∧ (r_7 = 0 → wpX9_isEnded p1 M_7 (fun (r_18 : Int32) (M_18 : pt_M) => (r_18 = 0 → wjX12_isEnded_28 p1 Q M_18) ∧ (¬ r_18 = 0 → wjX12_isEnded_29 p1 Q 1 M_18)))))
set_option maxHeartbeats 4000000 in
set_option maxRecDepth 100000 in
theorem mtX12_isEnded (l : Launch) (D : va_G) (cA : Nat → ClassId) (ad : Nat → Nat) (hI : rt_I ad) (sz : Nat) (p1 : Int32) (M : pt_M) (Q : Int32 → pt_M → Prop) (hw : wpX12_isEnded p1 M Q) : Met l yX12_isEnded (Cond.code yX12_isEnded cX12_isEnded 2 (some .boolean) :: lw_all) ({ frames := 6, cells := 0, slots := 0, locals := 133 } : Room) (va_Pc [.ref (ad 0), .int p1] (rt_P D cA ad sz M)) (va_Qi Q (rt_B D cA ad) (rt_fr ad sz)) 0 0 (rt_fr ad sz) := by
  refine Met.ofW (cc := cX12_isEnded) (maxL := 2) (ret := (some .boolean)) (by decide) rfl ?_
  intro p e s m args below meth c s₁ B hml hv
  obtain ⟨rfl, hsz, hP, hK, hN⟩ := hv
  have hx := B.exec
  have hb := B.bytes
  have hr := B.returns
  have hts0 := atoms_spec (ws := (Cond.code yX12_isEnded cX12_isEnded 2 (some .boolean) :: lw_all)) B.pre
  have hown : s.vm.findClass RX12 = some m.cls := findClass_of_methodNamed B.named
  have hlocks := B.notSynchronized
  subst hsz
  have F : pt_F p m c cX12_isEnded 2 s _ RX12 D cA := ⟨⟨hx, hb, hml, hown, fun w h => hts0 w (List.mem_cons_of_mem _ h)⟩, hK⟩
  have hD : ∀ M, va_D (rt_fr ad s.heap.size) (rt_W cA ad M) := rt_D hI (fun k h => Or.inl ⟨k, h, rfl⟩)
  have hS : va_S (rt_fr ad s.heap.size) s.heap s.heap [] := va_S.rf
  have hl := lv_entry ([.ref (ad 0), .int p1]) (n := 2) (Nat.le_of_ble_eq_true rfl)
  rw [lg_entry_eq]
  generalize (lg_sl ([.ref (ad 0), .int p1]) ++ List.replicate (2 - (lg_sl ([.ref (ad 0), .int p1])).length) Slot.unset).toArray = ls at hl ⊢
  have hl : lv_has ls 2 [(0, .ref (ad 0)), (1, .int p1)] := hl
  have J29 : ∀ (xs0 : Int32) (M : pt_M) (H : Heap) (locs : List Loc) (ls : Array Slot), wjX12_isEnded_29 p1 Q xs0 M → va_P D pt_cl (rt_W cA ad M) H → va_S (rt_fr ad s.heap.size) s.heap H locs → lv_has ls 2 [] → W p l e (headSpec (Cond.code yX12_isEnded cX12_isEnded 2 (some .boolean) :: lw_all) ({ frames := 6, cells := 0, slots := 0, locals := 133 } : Room)).room s m ([.ref (ad 0), .int p1] : List Value).toArray below meth c H locs 0 0 (MQ below (va_Qi Q (rt_B D cA ad) (rt_fr ad s.heap.size)) ([.ref (ad 0), .int p1] : List Value).toArray s 0 0 (rt_fr ad s.heap.size)) (F0 m 29 ls [.int xs0]) := by
    intro xs0 M H locs ls hw hP hS hl
    unfold wjX12_isEnded_29 at hw
    exact W.zret (v := xs0) (ty := .boolean) hx hb hr (pt_zb_n hw.1) (fun t ht hW => ⟨⟨xs0, M, rfl, hw.2, by unfold rt_B; rw [ht]; exact hP⟩, hS.F ht⟩) hS.2.2 dX12_isEnded_29
  have J28 : ∀ (M : pt_M) (H : Heap) (locs : List Loc) (ls : Array Slot), wjX12_isEnded_28 p1 Q M → va_P D pt_cl (rt_W cA ad M) H → va_S (rt_fr ad s.heap.size) s.heap H locs → lv_has ls 2 [] → W p l e (headSpec (Cond.code yX12_isEnded cX12_isEnded 2 (some .boolean) :: lw_all) ({ frames := 6, cells := 0, slots := 0, locals := 133 } : Room)).room s m ([.ref (ad 0), .int p1] : List Value).toArray below meth c H locs 0 0 (MQ below (va_Qi Q (rt_B D cA ad) (rt_fr ad s.heap.size)) ([.ref (ad 0), .int p1] : List Value).toArray s 0 0 (rt_fr ad s.heap.size)) (F0 m 28 ls []) := by
    intro M H locs ls hw hP hS hl
    unfold wjX12_isEnded_28 at hw
    refine lv_iconst (v := 0) hx hb dX12_isEnded_28 (by decide) ?_
    exact J29 0 M _ _ _ hw hP hS (lv_sub hl [] rfl)
  unfold wpX12_isEnded at hw
  refine lv_aload_n hx hb dX12_isEnded_0 rfl (lv_at hl 0 rfl) ?_
  refine lv_aload_n hx hb dX12_isEnded_1 rfl (lv_at hl 0 rfl) ?_
  refine lv_iload_n hx hb dX12_isEnded_2 rfl (lv_at hl 1 rfl) ?_
  refine rt_calli (rt_runV (n := 1) (As := [.int p1]) (rest := [.ref (ad 0)]) F hP hN hS (rt_frs hS.1) (rt_c12 _ rt_k0) (rt_l12 rt_k0) rfl (mtX12_isNoState l D cA ad hI _ p1 M _ hw) kw_1179 kw_1176 kw_60 kw_1178 kw_30 ⟨by decide, by decide, by decide +kernel⟩ ⟨rfl, rfl, Nat.le_of_ble_eq_true rfl, Nat.le_of_ble_eq_true rfl⟩ rfl hl.1 rfl (Nat.le_of_ble_eq_true rfl) dX12_isEnded_3 ⟨Nat.zero_le _, Nat.zero_le _⟩) hS (fun _ h => h) (fun r_3 M_3 H locs hw hP hS _ _ => ?_)
  refine lv_iconst (v := 1) hx hb dX12_isEnded_6 (by decide) ?_
  refine rt_calli (rt_runV (n := 2) (As := [.int r_3, .int 1]) (rest := []) F hP hN hS (rt_frs hS.1) (rt_c12 _ rt_k0) (rt_l12 rt_k0) rfl (mtX12_start l D cA ad hI _ r_3 1 M_3 _ hw) kw_1171 kw_1168 kw_60 kw_1170 kw_28 ⟨by decide, by decide, by decide +kernel⟩ ⟨rfl, rfl, Nat.le_of_ble_eq_true rfl, Nat.le_of_ble_eq_true rfl⟩ rfl hl.1 rfl (Nat.le_of_ble_eq_true rfl) dX12_isEnded_7 ⟨Nat.zero_le _, Nat.zero_le _⟩) hS (fun _ h => h) (fun r_7 M_7 H locs hw hP hS _ _ => ?_)
  refine lv_if_ne (tgt := 28) hx hb dX12_isEnded_10 (by decide) (fun hc10 => ?_) (fun hc10 => ?_)
  · replace hw := hw.1 hc10
    exact J28 M_7 _ _ _ hw hP hS (lv_sub hl [] rfl)
  · replace hw := hw.2 hc10
    refine lv_aload_n hx hb dX12_isEnded_13 rfl (lv_at hl 0 rfl) ?_
    refine rt_get F hP (rt_c12 _ rt_k0) (rt_l12 rt_k0) inX12 rfl 2 (by decide) kw_1142 rfl rfl dX12_isEnded_14 ?_
    refine lv_iload_n hx hb dX12_isEnded_17 rfl (lv_at hl 1 rfl) ?_
    refine rt_calli (rt_runV (n := 1) (As := [.int p1]) (rest := []) F hP hN hS (rt_frs hS.1) (rt_c9 _ rt_k6) (rt_l9 rt_k6) rfl (mtX9_isEnded l D cA ad hI _ p1 M_7 _ hw) kw_1389 kw_1500 kw_65 kw_1387 kw_1388 ⟨by decide, by decide, by decide +kernel⟩ ⟨rfl, rfl, Nat.le_of_ble_eq_true rfl, Nat.le_of_ble_eq_true rfl⟩ rfl hl.1 rfl (Nat.le_of_ble_eq_true rfl) dX12_isEnded_18 ⟨Nat.zero_le _, Nat.zero_le _⟩) hS (fun _ h => h) (fun r_18 M_18 H locs hw hP hS _ _ => ?_)
    refine lv_if_eq (tgt := 28) hx hb dX12_isEnded_21 (by decide) (fun hc21 => ?_) (fun hc21 => ?_)
    · replace hw := hw.1 hc21
      exact J28 M_18 _ _ _ hw hP hS (lv_sub hl [] rfl)
    · replace hw := hw.2 hc21
      refine lv_iconst (v := 1) hx hb dX12_isEnded_24 (by decide) ?_
      refine lv_goto (tgt := 29) hx hb dX12_isEnded_25 (by decide) ?_
      exact J29 1 M_18 _ _ _ hw hP hS (lv_sub hl [] rfl)
-- ===== X12_age
def wjX12_age_27 (p1 : Int32) (Q : Int32 → pt_M → Prop)  (xs0 : Int32) (M : pt_M) : Prop :=
  Q xs0 M
def wpX12_age (p1 : Int32) (M : pt_M) (Q : Int32 → pt_M → Prop) : Prop :=
  wpX12_has (M 6 1) p1 M (fun (r_8 : Int32) (M_8 : pt_M) => (r_8 = 0 → wjX12_age_27 p1 Q (-1) M_8) ∧ (¬ r_8 = 0 → vp_in p1 20 ∧ (wjX12_age_27 p1 Q (M_8 7 (Int32.toNatClampNeg p1)) M_8)))
set_option maxHeartbeats 4000000 in
set_option maxRecDepth 100000 in
theorem mtX12_age (l : Launch) (D : va_G) (cA : Nat → ClassId) (ad : Nat → Nat) (hI : rt_I ad) (sz : Nat) (p1 : Int32) (M : pt_M) (Q : Int32 → pt_M → Prop) (hw : wpX12_age p1 M Q) : Met l yX12_age (Cond.code yX12_age cX12_age 2 (some .int) :: lw_all) ({ frames := 1, cells := 0, slots := 0, locals := 21 } : Room) (va_Pc [.ref (ad 0), .int p1] (rt_P D cA ad sz M)) (va_Qi Q (rt_B D cA ad) (rt_fr ad sz)) 0 0 (rt_fr ad sz) := by
  refine Met.ofW (cc := cX12_age) (maxL := 2) (ret := (some .int)) (by decide) rfl ?_
  intro p e s m args below meth c s₁ B hml hv
  obtain ⟨rfl, hsz, hP, hK, hN⟩ := hv
  have hx := B.exec
  have hb := B.bytes
  have hr := B.returns
  have hts0 := atoms_spec (ws := (Cond.code yX12_age cX12_age 2 (some .int) :: lw_all)) B.pre
  have hown : s.vm.findClass RX12 = some m.cls := findClass_of_methodNamed B.named
  have hlocks := B.notSynchronized
  subst hsz
  have F : pt_F p m c cX12_age 2 s _ RX12 D cA := ⟨⟨hx, hb, hml, hown, fun w h => hts0 w (List.mem_cons_of_mem _ h)⟩, hK⟩
  have hD : ∀ M, va_D (rt_fr ad s.heap.size) (rt_W cA ad M) := rt_D hI (fun k h => Or.inl ⟨k, h, rfl⟩)
  have hS : va_S (rt_fr ad s.heap.size) s.heap s.heap [] := va_S.rf
  have hl := lv_entry ([.ref (ad 0), .int p1]) (n := 2) (Nat.le_of_ble_eq_true rfl)
  rw [lg_entry_eq]
  generalize (lg_sl ([.ref (ad 0), .int p1]) ++ List.replicate (2 - (lg_sl ([.ref (ad 0), .int p1])).length) Slot.unset).toArray = ls at hl ⊢
  have hl : lv_has ls 2 [(0, .ref (ad 0)), (1, .int p1)] := hl
  have J27 : ∀ (xs0 : Int32) (M : pt_M) (H : Heap) (locs : List Loc) (ls : Array Slot), wjX12_age_27 p1 Q xs0 M → va_P D pt_cl (rt_W cA ad M) H → va_S (rt_fr ad s.heap.size) s.heap H locs → lv_has ls 2 [] → W p l e (headSpec (Cond.code yX12_age cX12_age 2 (some .int) :: lw_all) ({ frames := 1, cells := 0, slots := 0, locals := 21 } : Room)).room s m ([.ref (ad 0), .int p1] : List Value).toArray below meth c H locs 0 0 (MQ below (va_Qi Q (rt_B D cA ad) (rt_fr ad s.heap.size)) ([.ref (ad 0), .int p1] : List Value).toArray s 0 0 (rt_fr ad s.heap.size)) (F0 m 27 ls [.int xs0]) := by
    intro xs0 M H locs ls hw hP hS hl
    unfold wjX12_age_27 at hw
    exact W.iret (v := xs0) hx hb hr (fun t ht hW => ⟨⟨xs0, M, rfl, hw, by unfold rt_B; rw [ht]; exact hP⟩, hS.F ht⟩) hS.2.2 dX12_age_27
  unfold wpX12_age at hw
  refine lv_aload_n hx hb dX12_age_0 rfl (lv_at hl 0 rfl) ?_
  refine rt_get F hP (rt_c12 _ rt_k0) (rt_l12 rt_k0) inX12 rfl 2 (by decide) kw_1142 rfl rfl dX12_age_1 ?_
  refine rt_get F hP (rt_c9 _ rt_k6) (rt_l9 rt_k6) inX9 rfl 1 (by decide) kw_1006 rfl rfl dX12_age_4 ?_
  refine lv_iload_n hx hb dX12_age_7 rfl (lv_at hl 1 rfl) ?_
  refine rt_calli (rt_runS (n := 2) (As := [.int (M 6 1), .int p1]) (rest := []) F hP hN hS (rt_frs hS.1) (mtX12_has l D cA ad hI _ (M 6 1) p1 M _ hw) kw_1226 kw_1224 kw_60 kw_1225 ⟨by decide, by decide, by decide +kernel⟩ ⟨rfl, rfl, Nat.le_of_ble_eq_true rfl, Nat.le_of_ble_eq_true rfl⟩ rfl hl.1 rfl (Nat.le_of_ble_eq_true rfl) dX12_age_8 ⟨Nat.zero_le _, Nat.zero_le _⟩) hS (fun _ h => h) (fun r_8 M_8 H locs hw hP hS _ _ => ?_)
  refine lv_if_eq (tgt := 26) hx hb dX12_age_11 (by decide) (fun hc11 => ?_) (fun hc11 => ?_)
  · replace hw := hw.1 hc11
    refine lv_iconst (v := (-1)) hx hb dX12_age_26 (by decide) ?_
    exact J27 (-1) M_8 _ _ _ hw hP hS (lv_sub hl [] rfl)
  · replace hw := hw.2 hc11
    refine lv_aload_n hx hb dX12_age_14 rfl (lv_at hl 0 rfl) ?_
    refine rt_get F hP (rt_c12 _ rt_k0) (rt_l12 rt_k0) inX12 rfl 2 (by decide) kw_1142 rfl rfl dX12_age_15 ?_
    refine rt_get F hP (rt_c9 _ rt_k6) (rt_l9 rt_k6) inX9 rfl 2 (by decide) kw_1008 rfl rfl dX12_age_18 ?_
    refine lv_iload_n hx hb dX12_age_21 rfl (lv_at hl 1 rfl) ?_
    have hv22 := hw.1
    replace hw := hw.2
    refine rt_iald F hP rt_a7 hv22 dX12_age_22 ?_
    refine lv_goto (tgt := 27) hx hb dX12_age_23 (by decide) ?_
    exact J27 (M_8 7 (Int32.toNatClampNeg p1)) M_8 _ _ _ hw hP hS (lv_sub hl [] rfl)
-- ===== X12_ageOf
def wjX12_ageOf_22 (p1 : Int32) (Q : Int32 → pt_M → Prop)  (xs0 : Int32) (M : pt_M) : Prop :=
  Q xs0 M
def wpX12_ageOf (p1 : Int32) (M : pt_M) (Q : Int32 → pt_M → Prop) : Prop :=
  wpX12_isNoState p1 M (fun (r_3 : Int32) (M_3 : pt_M) => wpX12_start r_3 1 M_3 (fun (r_7 : Int32) (M_7 : pt_M) => (r_7 = 0 → wpX12_age p1 M_7 (fun (r_19 : Int32) (M_19 : pt_M) => wjX12_ageOf_22 p1 Q r_19 M_19)) ∧ (¬ r_7 = 0 → wjX12_ageOf_22 p1 Q 0 M_7)))
set_option maxHeartbeats 4000000 in
set_option maxRecDepth 100000 in
theorem mtX12_ageOf (l : Launch) (D : va_G) (cA : Nat → ClassId) (ad : Nat → Nat) (hI : rt_I ad) (sz : Nat) (p1 : Int32) (M : pt_M) (Q : Int32 → pt_M → Prop) (hw : wpX12_ageOf p1 M Q) : Met l yX12_ageOf (Cond.code yX12_ageOf cX12_ageOf 2 (some .int) :: lw_all) ({ frames := 2, cells := 0, slots := 0, locals := 44 } : Room) (va_Pc [.ref (ad 0), .int p1] (rt_P D cA ad sz M)) (va_Qi Q (rt_B D cA ad) (rt_fr ad sz)) 0 0 (rt_fr ad sz) := by
  refine Met.ofW (cc := cX12_ageOf) (maxL := 2) (ret := (some .int)) (by decide) rfl ?_
  intro p e s m args below meth c s₁ B hml hv
  obtain ⟨rfl, hsz, hP, hK, hN⟩ := hv
  have hx := B.exec
  have hb := B.bytes
  have hr := B.returns
  have hts0 := atoms_spec (ws := (Cond.code yX12_ageOf cX12_ageOf 2 (some .int) :: lw_all)) B.pre
  have hown : s.vm.findClass RX12 = some m.cls := findClass_of_methodNamed B.named
  have hlocks := B.notSynchronized
  subst hsz
  have F : pt_F p m c cX12_ageOf 2 s _ RX12 D cA := ⟨⟨hx, hb, hml, hown, fun w h => hts0 w (List.mem_cons_of_mem _ h)⟩, hK⟩
  have hD : ∀ M, va_D (rt_fr ad s.heap.size) (rt_W cA ad M) := rt_D hI (fun k h => Or.inl ⟨k, h, rfl⟩)
  have hS : va_S (rt_fr ad s.heap.size) s.heap s.heap [] := va_S.rf
  have hl := lv_entry ([.ref (ad 0), .int p1]) (n := 2) (Nat.le_of_ble_eq_true rfl)
  rw [lg_entry_eq]
  generalize (lg_sl ([.ref (ad 0), .int p1]) ++ List.replicate (2 - (lg_sl ([.ref (ad 0), .int p1])).length) Slot.unset).toArray = ls at hl ⊢
  have hl : lv_has ls 2 [(0, .ref (ad 0)), (1, .int p1)] := hl
  have J22 : ∀ (xs0 : Int32) (M : pt_M) (H : Heap) (locs : List Loc) (ls : Array Slot), wjX12_ageOf_22 p1 Q xs0 M → va_P D pt_cl (rt_W cA ad M) H → va_S (rt_fr ad s.heap.size) s.heap H locs → lv_has ls 2 [] → W p l e (headSpec (Cond.code yX12_ageOf cX12_ageOf 2 (some .int) :: lw_all) ({ frames := 2, cells := 0, slots := 0, locals := 44 } : Room)).room s m ([.ref (ad 0), .int p1] : List Value).toArray below meth c H locs 0 0 (MQ below (va_Qi Q (rt_B D cA ad) (rt_fr ad s.heap.size)) ([.ref (ad 0), .int p1] : List Value).toArray s 0 0 (rt_fr ad s.heap.size)) (F0 m 22 ls [.int xs0]) := by
    intro xs0 M H locs ls hw hP hS hl
    unfold wjX12_ageOf_22 at hw
    exact W.iret (v := xs0) hx hb hr (fun t ht hW => ⟨⟨xs0, M, rfl, hw, by unfold rt_B; rw [ht]; exact hP⟩, hS.F ht⟩) hS.2.2 dX12_ageOf_22
  unfold wpX12_ageOf at hw
  refine lv_aload_n hx hb dX12_ageOf_0 rfl (lv_at hl 0 rfl) ?_
  refine lv_aload_n hx hb dX12_ageOf_1 rfl (lv_at hl 0 rfl) ?_
  refine lv_iload_n hx hb dX12_ageOf_2 rfl (lv_at hl 1 rfl) ?_
  refine rt_calli (rt_runV (n := 1) (As := [.int p1]) (rest := [.ref (ad 0)]) F hP hN hS (rt_frs hS.1) (rt_c12 _ rt_k0) (rt_l12 rt_k0) rfl (mtX12_isNoState l D cA ad hI _ p1 M _ hw) kw_1179 kw_1176 kw_60 kw_1178 kw_30 ⟨by decide, by decide, by decide +kernel⟩ ⟨rfl, rfl, Nat.le_of_ble_eq_true rfl, Nat.le_of_ble_eq_true rfl⟩ rfl hl.1 rfl (Nat.le_of_ble_eq_true rfl) dX12_ageOf_3 ⟨Nat.zero_le _, Nat.zero_le _⟩) hS (fun _ h => h) (fun r_3 M_3 H locs hw hP hS _ _ => ?_)
  refine lv_iconst (v := 1) hx hb dX12_ageOf_6 (by decide) ?_
  refine rt_calli (rt_runV (n := 2) (As := [.int r_3, .int 1]) (rest := []) F hP hN hS (rt_frs hS.1) (rt_c12 _ rt_k0) (rt_l12 rt_k0) rfl (mtX12_start l D cA ad hI _ r_3 1 M_3 _ hw) kw_1171 kw_1168 kw_60 kw_1170 kw_28 ⟨by decide, by decide, by decide +kernel⟩ ⟨rfl, rfl, Nat.le_of_ble_eq_true rfl, Nat.le_of_ble_eq_true rfl⟩ rfl hl.1 rfl (Nat.le_of_ble_eq_true rfl) dX12_ageOf_7 ⟨Nat.zero_le _, Nat.zero_le _⟩) hS (fun _ h => h) (fun r_7 M_7 H locs hw hP hS _ _ => ?_)
  refine lv_if_eq (tgt := 17) hx hb dX12_ageOf_10 (by decide) (fun hc10 => ?_) (fun hc10 => ?_)
  · replace hw := hw.1 hc10
    refine lv_aload_n hx hb dX12_ageOf_17 rfl (lv_at hl 0 rfl) ?_
    refine lv_iload_n hx hb dX12_ageOf_18 rfl (lv_at hl 1 rfl) ?_
    refine rt_calli (rt_runV (n := 1) (As := [.int p1]) (rest := []) F hP hN hS (rt_frs hS.1) (rt_c12 _ rt_k0) (rt_l12 rt_k0) rfl (mtX12_age l D cA ad hI _ p1 M_7 _ hw) kw_1508 kw_1505 kw_60 kw_1507 kw_46 ⟨by decide, by decide, by decide +kernel⟩ ⟨rfl, rfl, Nat.le_of_ble_eq_true rfl, Nat.le_of_ble_eq_true rfl⟩ rfl hl.1 rfl (Nat.le_of_ble_eq_true rfl) dX12_ageOf_19 ⟨Nat.zero_le _, Nat.zero_le _⟩) hS (fun _ h => h) (fun r_19 M_19 H locs hw hP hS _ _ => ?_)
    exact J22 r_19 M_19 _ _ _ hw hP hS (lv_sub hl [] rfl)
  · replace hw := hw.2 hc10
    refine lv_iconst (v := 0) hx hb dX12_ageOf_13 (by decide) ?_
    refine lv_goto (tgt := 22) hx hb dX12_ageOf_14 (by decide) ?_
    exact J22 0 M_7 _ _ _ hw hP hS (lv_sub hl [] rfl)
-- ===== X12_record
def wjX12_record_59 (p1 : Int32) (Q : Int32 → pt_M → Prop)  (xs0 : Int32) (M : pt_M) : Prop :=
  Q xs0 M
def wjX12_record_46 (p1 : Int32) (Q : Int32 → pt_M → Prop)   (M : pt_M) : Prop :=
  wjX12_record_59 p1 Q 0 M
def wjX12_record_39 (p1 : Int32) (Q : Int32 → pt_M → Prop)  (xs1 : Int32) (M : pt_M) : Prop :=
  wpX12_refuse xs1 2 M (fun (r_40 : Int32) (M_40 : pt_M) => (r_40 = 0 → vp_in p1 20 ∧ (wjX12_record_59 p1 Q (M_40 8 (Int32.toNatClampNeg p1)) M_40)) ∧ (¬ r_40 = 0 → wjX12_record_46 p1 Q M_40))
def wpX12_record (p1 : Int32) (M : pt_M) (Q : Int32 → pt_M → Prop) : Prop :=
  wpX12_isNoState p1 M (fun (r_3 : Int32) (M_3 : pt_M) => wpX12_start r_3 1 M_3 (fun (r_7 : Int32) (M_7 : pt_M) => (¬ r_7 = 0 → wjX12_record_46 p1 Q M_7) ∧ (r_7 = 0 → wpJx4a65c_get_915e3 p1 M_7 (fun (M_22 : pt_M) => wpX10_isMark M_22 (fun (r_28 : Int32) (M_28 : pt_M) => (¬ r_28 = 0 → wjX12_record_39 p1 Q 0 M_28) ∧ (r_28 = 0 → wjX12_record_39 p1 Q 1 M_28))))))
set_option maxHeartbeats 4000000 in
set_option maxRecDepth 100000 in
theorem mtX12_record (l : Launch) (D : va_G) (cA : Nat → ClassId) (ad : Nat → Nat) (hI : rt_I ad) (sz : Nat) (p1 : Int32) (M : pt_M) (Q : Int32 → pt_M → Prop) (hw : wpX12_record p1 M Q) : Met l yX12_record (Cond.code yX12_record cX12_record 2 (some .int) :: lw_all) ({ frames := 3, cells := 0, slots := 0, locals := 64 } : Room) (va_Pc [.ref (ad 0), .int p1] (rt_P D cA ad sz M)) (va_Qi Q (rt_B D cA ad) (rt_fr ad sz)) 0 0 (rt_fr ad sz) := by
  refine Met.ofW (cc := cX12_record) (maxL := 2) (ret := (some .int)) (by decide) rfl ?_
  intro p e s m args below meth c s₁ B hml hv
  obtain ⟨rfl, hsz, hP, hK, hN⟩ := hv
  have hx := B.exec
  have hb := B.bytes
  have hr := B.returns
  have hts0 := atoms_spec (ws := (Cond.code yX12_record cX12_record 2 (some .int) :: lw_all)) B.pre
  have hown : s.vm.findClass RX12 = some m.cls := findClass_of_methodNamed B.named
  have hlocks := B.notSynchronized
  subst hsz
  have F : pt_F p m c cX12_record 2 s _ RX12 D cA := ⟨⟨hx, hb, hml, hown, fun w h => hts0 w (List.mem_cons_of_mem _ h)⟩, hK⟩
  have hD : ∀ M, va_D (rt_fr ad s.heap.size) (rt_W cA ad M) := rt_D hI (fun k h => Or.inl ⟨k, h, rfl⟩)
  have hS : va_S (rt_fr ad s.heap.size) s.heap s.heap [] := va_S.rf
  have hl := lv_entry ([.ref (ad 0), .int p1]) (n := 2) (Nat.le_of_ble_eq_true rfl)
  rw [lg_entry_eq]
  generalize (lg_sl ([.ref (ad 0), .int p1]) ++ List.replicate (2 - (lg_sl ([.ref (ad 0), .int p1])).length) Slot.unset).toArray = ls at hl ⊢
  have hl : lv_has ls 2 [(0, .ref (ad 0)), (1, .int p1)] := hl
  have J59 : ∀ (xs0 : Int32) (M : pt_M) (H : Heap) (locs : List Loc) (ls : Array Slot), wjX12_record_59 p1 Q xs0 M → va_P D pt_cl (rt_W cA ad M) H → va_S (rt_fr ad s.heap.size) s.heap H locs → lv_has ls 2 [] → W p l e (headSpec (Cond.code yX12_record cX12_record 2 (some .int) :: lw_all) ({ frames := 3, cells := 0, slots := 0, locals := 64 } : Room)).room s m ([.ref (ad 0), .int p1] : List Value).toArray below meth c H locs 0 0 (MQ below (va_Qi Q (rt_B D cA ad) (rt_fr ad s.heap.size)) ([.ref (ad 0), .int p1] : List Value).toArray s 0 0 (rt_fr ad s.heap.size)) (F0 m 59 ls [.int xs0]) := by
    intro xs0 M H locs ls hw hP hS hl
    unfold wjX12_record_59 at hw
    exact W.iret (v := xs0) hx hb hr (fun t ht hW => ⟨⟨xs0, M, rfl, hw, by unfold rt_B; rw [ht]; exact hP⟩, hS.F ht⟩) hS.2.2 dX12_record_59
  have J46 : ∀ (M : pt_M) (H : Heap) (locs : List Loc) (ls : Array Slot), wjX12_record_46 p1 Q M → va_P D pt_cl (rt_W cA ad M) H → va_S (rt_fr ad s.heap.size) s.heap H locs → lv_has ls 2 [] → W p l e (headSpec (Cond.code yX12_record cX12_record 2 (some .int) :: lw_all) ({ frames := 3, cells := 0, slots := 0, locals := 64 } : Room)).room s m ([.ref (ad 0), .int p1] : List Value).toArray below meth c H locs 0 0 (MQ below (va_Qi Q (rt_B D cA ad) (rt_fr ad s.heap.size)) ([.ref (ad 0), .int p1] : List Value).toArray s 0 0 (rt_fr ad s.heap.size)) (F0 m 46 ls []) := by
    intro M H locs ls hw hP hS hl
    unfold wjX12_record_46 at hw
    refine lv_iconst (v := 0) hx hb dX12_record_46 (by decide) ?_
    refine lv_goto (tgt := 59) hx hb dX12_record_47 (by decide) ?_
    exact J59 0 M _ _ _ hw hP hS (lv_sub hl [] rfl)
  have J39 : ∀ (xs1 : Int32) (M : pt_M) (H : Heap) (locs : List Loc) (ls : Array Slot), wjX12_record_39 p1 Q xs1 M → va_P D pt_cl (rt_W cA ad M) H → va_S (rt_fr ad s.heap.size) s.heap H locs → lv_has ls 2 [(0, .ref (ad 0)), (1, .int p1)] → W p l e (headSpec (Cond.code yX12_record cX12_record 2 (some .int) :: lw_all) ({ frames := 3, cells := 0, slots := 0, locals := 64 } : Room)).room s m ([.ref (ad 0), .int p1] : List Value).toArray below meth c H locs 0 0 (MQ below (va_Qi Q (rt_B D cA ad) (rt_fr ad s.heap.size)) ([.ref (ad 0), .int p1] : List Value).toArray s 0 0 (rt_fr ad s.heap.size)) (F0 m 39 ls [.int xs1, .ref (ad 0)]) := by
    intro xs1 M H locs ls hw hP hS hl
    unfold wjX12_record_39 at hw
    refine lv_iconst (v := 2) hx hb dX12_record_39 (by decide) ?_
    refine rt_calli (rt_runV (n := 2) (As := [.int xs1, .int 2]) (rest := []) F hP hN hS (rt_frs hS.1) (rt_c12 _ rt_k0) (rt_l12 rt_k0) rfl (mtX12_refuse l D cA ad hI _ xs1 2 M _ hw) kw_1175 kw_1172 kw_60 kw_1174 kw_29 ⟨by decide, by decide, by decide +kernel⟩ ⟨rfl, rfl, Nat.le_of_ble_eq_true rfl, Nat.le_of_ble_eq_true rfl⟩ rfl hl.1 rfl (Nat.le_of_ble_eq_true rfl) dX12_record_40 ⟨Nat.zero_le _, Nat.zero_le _⟩) hS (fun _ h => h) (fun r_40 M_40 H locs hw hP hS _ _ => ?_)
    refine lv_if_eq (tgt := 50) hx hb dX12_record_43 (by decide) (fun hc43 => ?_) (fun hc43 => ?_)
    · replace hw := hw.1 hc43
      refine lv_aload_n hx hb dX12_record_50 rfl (lv_at hl 0 rfl) ?_
      refine rt_get F hP (rt_c12 _ rt_k0) (rt_l12 rt_k0) inX12 rfl 2 (by decide) kw_1142 rfl rfl dX12_record_51 ?_
      refine rt_get F hP (rt_c9 _ rt_k6) (rt_l9 rt_k6) inX9 rfl 3 (by decide) kw_1010 rfl rfl dX12_record_54 ?_
      refine lv_iload_n hx hb dX12_record_57 rfl (lv_at hl 1 rfl) ?_
      have hv58 := hw.1
      replace hw := hw.2
      refine rt_iald F hP rt_a8 hv58 dX12_record_58 ?_
      exact J59 (M_40 8 (Int32.toNatClampNeg p1)) M_40 _ _ _ hw hP hS (lv_sub hl [] rfl)
    · replace hw := hw.2 hc43
      exact J46 M_40 _ _ _ hw hP hS (lv_sub hl [] rfl)
  unfold wpX12_record at hw
  refine lv_aload_n hx hb dX12_record_0 rfl (lv_at hl 0 rfl) ?_
  refine lv_aload_n hx hb dX12_record_1 rfl (lv_at hl 0 rfl) ?_
  refine lv_iload_n hx hb dX12_record_2 rfl (lv_at hl 1 rfl) ?_
  refine rt_calli (rt_runV (n := 1) (As := [.int p1]) (rest := [.ref (ad 0)]) F hP hN hS (rt_frs hS.1) (rt_c12 _ rt_k0) (rt_l12 rt_k0) rfl (mtX12_isNoState l D cA ad hI _ p1 M _ hw) kw_1179 kw_1176 kw_60 kw_1178 kw_30 ⟨by decide, by decide, by decide +kernel⟩ ⟨rfl, rfl, Nat.le_of_ble_eq_true rfl, Nat.le_of_ble_eq_true rfl⟩ rfl hl.1 rfl (Nat.le_of_ble_eq_true rfl) dX12_record_3 ⟨Nat.zero_le _, Nat.zero_le _⟩) hS (fun _ h => h) (fun r_3 M_3 H locs hw hP hS _ _ => ?_)
  refine lv_iconst (v := 1) hx hb dX12_record_6 (by decide) ?_
  refine rt_calli (rt_runV (n := 2) (As := [.int r_3, .int 1]) (rest := []) F hP hN hS (rt_frs hS.1) (rt_c12 _ rt_k0) (rt_l12 rt_k0) rfl (mtX12_start l D cA ad hI _ r_3 1 M_3 _ hw) kw_1171 kw_1168 kw_60 kw_1170 kw_28 ⟨by decide, by decide, by decide +kernel⟩ ⟨rfl, rfl, Nat.le_of_ble_eq_true rfl, Nat.le_of_ble_eq_true rfl⟩ rfl hl.1 rfl (Nat.le_of_ble_eq_true rfl) dX12_record_7 ⟨Nat.zero_le _, Nat.zero_le _⟩) hS (fun _ h => h) (fun r_7 M_7 H locs hw hP hS _ _ => ?_)
  refine lv_if_ne (tgt := 46) hx hb dX12_record_10 (by decide) (fun hc10 => ?_) (fun hc10 => ?_)
  · replace hw := hw.1 hc10
    exact J46 M_7 _ _ _ hw hP hS (lv_sub hl [] rfl)
  · replace hw := hw.2 hc10
    refine lv_aload_n hx hb dX12_record_13 rfl (lv_at hl 0 rfl) ?_
    refine lv_aload_n hx hb dX12_record_14 rfl (lv_at hl 0 rfl) ?_
    refine rt_get F hP (rt_c12 _ rt_k0) (rt_l12 rt_k0) inX12 rfl 1 (by decide) kw_1140 rfl rfl dX12_record_15 ?_
    refine rt_get F hP (rt_c8 _ rt_k1) (rt_l8 rt_k1) inX8 rfl 0 (by decide) kw_985 rfl rfl dX12_record_18 ?_
    refine lv_iload_n hx hb dX12_record_21 rfl (lv_at hl 1 rfl) ?_
    refine rt_call4 (rt_runV (n := 1) (As := [.int p1]) (rest := [.ref (ad 0)]) F hP hN hS (rt_frs hS.1) (rt_c13 _ rt_k2) (rt_l13 rt_k2) rfl (mtJx4a65c_get_915e3 l D cA ad hI _ p1 M_7 _ hw) kw_1186 kw_1183 kw_64 kw_1184 kw_1185 ⟨by decide, by decide, by decide +kernel⟩ ⟨rfl, rfl, (Nat.le_of_ble_eq_true rfl), (Nat.le_of_ble_eq_true rfl)⟩ rfl hl.1 rfl (Nat.le_of_ble_eq_true rfl) dX12_record_22 ⟨Nat.zero_le _, Nat.zero_le _⟩) hS (fun _ h => h) (fun M_22 H locs hw hP hS _ _ => ?_)
    refine rt_cast4 F hP kw_1046 dX12_record_25 ?_
    refine rt_calli (rt_runV (n := 0) (As := []) (rest := [.ref (ad 0)]) F hP hN hS (rt_frs hS.1) (rt_c10 _ rt_k4) (rt_l10 rt_k4) rfl (mtX10_isMark l D cA ad hI _ M_22 _ hw) kw_1223 kw_1241 kw_66 kw_1221 kw_1222 ⟨by decide, by decide, by decide +kernel⟩ ⟨rfl, rfl, Nat.le_of_ble_eq_true rfl, Nat.le_of_ble_eq_true rfl⟩ rfl hl.1 rfl (Nat.le_of_ble_eq_true rfl) dX12_record_28 ⟨Nat.zero_le _, Nat.zero_le _⟩) hS (fun _ h => h) (fun r_28 M_28 H locs hw hP hS _ _ => ?_)
    refine lv_if_ne (tgt := 38) hx hb dX12_record_31 (by decide) (fun hc31 => ?_) (fun hc31 => ?_)
    · replace hw := hw.1 hc31
      refine lv_iconst (v := 0) hx hb dX12_record_38 (by decide) ?_
      exact J39 0 M_28 _ _ _ hw hP hS (lv_sub hl [0, 1] rfl)
    · replace hw := hw.2 hc31
      refine lv_iconst (v := 1) hx hb dX12_record_34 (by decide) ?_
      refine lv_goto (tgt := 39) hx hb dX12_record_35 (by decide) ?_
      exact J39 1 M_28 _ _ _ hw hP hS (lv_sub hl [0, 1] rfl)
