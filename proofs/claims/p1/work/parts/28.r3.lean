-- ===== X12_refuse
def wjX12_refuse_28 (p1 : Int32) (p2 : Int32) (Q : Int32 → pt_M → Prop)  (xs0 : Int32) (M : pt_M) : Prop :=
  pt_zb xs0 ∧ Q xs0 M
def wjX12_refuse_16 (p1 : Int32) (p2 : Int32) (Q : Int32 → pt_M → Prop)   (M : pt_M) : Prop :=
  ((M 0 0) ≤ 0 → wjX12_refuse_28 p1 p2 Q 0 M) ∧ (¬ (M 0 0) ≤ 0 → wjX12_refuse_28 p1 p2 Q 1 M)
def wpX12_refuse (p1 : Int32) (p2 : Int32) (M : pt_M) (Q : Int32 → pt_M → Prop) : Prop :=
  (p1 = 0 → wjX12_refuse_16 p1 p2 Q M) ∧ (¬ p1 = 0 → (¬ (M 0 0) = 0 → wjX12_refuse_16 p1 p2 Q M) ∧ ((M 0 0) = 0 → ∀ M_13 : pt_M, M_13 = pt_st M 0 0 p2 → wjX12_refuse_16 p1 p2 Q M_13))
set_option maxHeartbeats 4000000 in
set_option maxRecDepth 100000 in
theorem mtX12_refuse (l : Launch) (D : va_G) (cA : Nat → ClassId) (ad : Nat → Nat) (hI : rt_I ad) (sz : Nat) (p1 : Int32) (p2 : Int32) (M : pt_M) (Q : Int32 → pt_M → Prop) (hw : wpX12_refuse p1 p2 M Q) : Met l yX12_refuse (Cond.code yX12_refuse cX12_refuse 3 (some .boolean) :: lw_all) ({ frames := 0, cells := 0, slots := 0, locals := 0 } : Room) (va_Pc [.ref (ad 0), .int p1, .int p2] (rt_P D cA ad sz M)) (va_Qi Q (rt_B D cA ad) (rt_fr ad sz)) 0 0 (rt_fr ad sz) := by
  refine Met.ofW (cc := cX12_refuse) (maxL := 3) (ret := (some .boolean)) (by decide) rfl ?_
  intro p e s m args below meth c s₁ B hml hv
  obtain ⟨rfl, hsz, hP, hK, hN⟩ := hv
  have hx := B.exec
  have hb := B.bytes
  have hr := B.returns
  have hts0 := atoms_spec (ws := (Cond.code yX12_refuse cX12_refuse 3 (some .boolean) :: lw_all)) B.pre
  have hown : s.vm.findClass RX12 = some m.cls := findClass_of_methodNamed B.named
  have hlocks := B.notSynchronized
  subst hsz
  have F : pt_F p m c cX12_refuse 3 s _ RX12 D cA := ⟨⟨hx, hb, hml, hown, fun w h => hts0 w (List.mem_cons_of_mem _ h)⟩, hK⟩
  have hD : ∀ M, va_D (rt_fr ad s.heap.size) (rt_W cA ad M) := rt_D hI (fun k h => Or.inl ⟨k, h, rfl⟩)
  have hS : va_S (rt_fr ad s.heap.size) s.heap s.heap [] := va_S.rf
  have hl := lv_entry ([.ref (ad 0), .int p1, .int p2]) (n := 3) (Nat.le_of_ble_eq_true rfl)
  rw [lg_entry_eq]
  generalize (lg_sl ([.ref (ad 0), .int p1, .int p2]) ++ List.replicate (3 - (lg_sl ([.ref (ad 0), .int p1, .int p2])).length) Slot.unset).toArray = ls at hl ⊢
  have hl : lv_has ls 3 [(0, .ref (ad 0)), (1, .int p1), (2, .int p2)] := hl
  have J28 : ∀ (xs0 : Int32) (M : pt_M) (H : Heap) (locs : List Loc) (ls : Array Slot), wjX12_refuse_28 p1 p2 Q xs0 M → va_P D pt_cl (rt_W cA ad M) H → va_S (rt_fr ad s.heap.size) s.heap H locs → lv_has ls 3 [] → W p l e (headSpec (Cond.code yX12_refuse cX12_refuse 3 (some .boolean) :: lw_all) ({ frames := 0, cells := 0, slots := 0, locals := 0 } : Room)).room s m ([.ref (ad 0), .int p1, .int p2] : List Value).toArray below meth c H locs 0 0 (MQ below (va_Qi Q (rt_B D cA ad) (rt_fr ad s.heap.size)) ([.ref (ad 0), .int p1, .int p2] : List Value).toArray s 0 0 (rt_fr ad s.heap.size)) (F0 m 28 ls [.int xs0]) := by
    intro xs0 M H locs ls hw hP hS hl
    unfold wjX12_refuse_28 at hw
    exact W.zret (v := xs0) (ty := .boolean) hx hb hr (pt_zb_n hw.1) (fun t ht hW => ⟨⟨xs0, M, rfl, hw.2, by unfold rt_B; rw [ht]; exact hP⟩, hS.F ht⟩) hS.2.2 dX12_refuse_28
  have J16 : ∀ (M : pt_M) (H : Heap) (locs : List Loc) (ls : Array Slot), wjX12_refuse_16 p1 p2 Q M → va_P D pt_cl (rt_W cA ad M) H → va_S (rt_fr ad s.heap.size) s.heap H locs → lv_has ls 3 [(0, .ref (ad 0))] → W p l e (headSpec (Cond.code yX12_refuse cX12_refuse 3 (some .boolean) :: lw_all) ({ frames := 0, cells := 0, slots := 0, locals := 0 } : Room)).room s m ([.ref (ad 0), .int p1, .int p2] : List Value).toArray below meth c H locs 0 0 (MQ below (va_Qi Q (rt_B D cA ad) (rt_fr ad s.heap.size)) ([.ref (ad 0), .int p1, .int p2] : List Value).toArray s 0 0 (rt_fr ad s.heap.size)) (F0 m 16 ls []) := by
    intro M H locs ls hw hP hS hl
    unfold wjX12_refuse_16 at hw
    refine lv_aload_n hx hb dX12_refuse_16 rfl (lv_at hl 0 rfl) ?_
    refine rt_get F hP (rt_c12 _ rt_k0) (rt_l12 rt_k0) inX12 rfl 0 (by decide) kw_1139 rfl rfl dX12_refuse_17 ?_
    refine lv_if_le (tgt := 27) hx hb dX12_refuse_20 (by decide) (fun hc20 => ?_) (fun hc20 => ?_)
    · replace hw := hw.1 hc20
      refine lv_iconst (v := 0) hx hb dX12_refuse_27 (by decide) ?_
      exact J28 0 M _ _ _ hw hP hS (lv_sub hl [] rfl)
    · replace hw := hw.2 hc20
      refine lv_iconst (v := 1) hx hb dX12_refuse_23 (by decide) ?_
      refine lv_goto (tgt := 28) hx hb dX12_refuse_24 (by decide) ?_
      exact J28 1 M _ _ _ hw hP hS (lv_sub hl [] rfl)
  unfold wpX12_refuse at hw
  refine lv_iload_n hx hb dX12_refuse_0 rfl (lv_at hl 1 rfl) ?_
  refine lv_if_eq (tgt := 16) hx hb dX12_refuse_1 (by decide) (fun hc1 => ?_) (fun hc1 => ?_)
  · replace hw := hw.1 hc1
    exact J16 M _ _ _ hw hP hS (lv_sub hl [0] rfl)
  · replace hw := hw.2 hc1
    refine lv_aload_n hx hb dX12_refuse_4 rfl (lv_at hl 0 rfl) ?_
    refine rt_get F hP (rt_c12 _ rt_k0) (rt_l12 rt_k0) inX12 rfl 0 (by decide) kw_1139 rfl rfl dX12_refuse_5 ?_
    refine lv_if_ne (tgt := 16) hx hb dX12_refuse_8 (by decide) (fun hc8 => ?_) (fun hc8 => ?_)
    · replace hw := hw.1 hc8
      exact J16 M _ _ _ hw hP hS (lv_sub hl [0] rfl)
    · replace hw := hw.2 hc8
      refine lv_aload_n hx hb dX12_refuse_11 rfl (lv_at hl 0 rfl) ?_
      refine lv_iload_n hx hb dX12_refuse_12 rfl (lv_at hl 2 rfl) ?_
      refine rt_put F hP hD hS (rt_c12 _ rt_k0) (rt_l12 rt_k0) inX12 tyX12 tyX12_ok nmX12 rfl 0 (by decide) kw_1139 rfl rfl rfl rfl (Nat.le_of_ble_eq_true rfl) (rt_c12 _ rt_k0) dX12_refuse_13 (fun M_13 H locs eM_13 hP hS => ?_)
      replace hw := hw M_13 eM_13
      exact J16 M_13 _ _ _ hw hP hS (lv_sub hl [0] rfl)
-- ===== X12_start
def wpX12_start (p1 : Int32) (p2 : Int32) (M : pt_M) (Q : Int32 → pt_M → Prop) : Prop :=
  ∀ M_2 : pt_M, M_2 = pt_st M 0 0 0 → wpX12_refuse p1 p2 M_2 (fun (r_8 : Int32) (M_8 : pt_M) => pt_zb r_8 ∧ Q r_8 M_8)
set_option maxHeartbeats 4000000 in
set_option maxRecDepth 100000 in
theorem mtX12_start (l : Launch) (D : va_G) (cA : Nat → ClassId) (ad : Nat → Nat) (hI : rt_I ad) (sz : Nat) (p1 : Int32) (p2 : Int32) (M : pt_M) (Q : Int32 → pt_M → Prop) (hw : wpX12_start p1 p2 M Q) : Met l yX12_start (Cond.code yX12_start cX12_start 3 (some .boolean) :: lw_all) ({ frames := 1, cells := 0, slots := 0, locals := 22 } : Room) (va_Pc [.ref (ad 0), .int p1, .int p2] (rt_P D cA ad sz M)) (va_Qi Q (rt_B D cA ad) (rt_fr ad sz)) 0 0 (rt_fr ad sz) := by
  refine Met.ofW (cc := cX12_start) (maxL := 3) (ret := (some .boolean)) (by decide) rfl ?_
  intro p e s m args below meth c s₁ B hml hv
  obtain ⟨rfl, hsz, hP, hK, hN⟩ := hv
  have hx := B.exec
  have hb := B.bytes
  have hr := B.returns
  have hts0 := atoms_spec (ws := (Cond.code yX12_start cX12_start 3 (some .boolean) :: lw_all)) B.pre
  have hown : s.vm.findClass RX12 = some m.cls := findClass_of_methodNamed B.named
  have hlocks := B.notSynchronized
  subst hsz
  have F : pt_F p m c cX12_start 3 s _ RX12 D cA := ⟨⟨hx, hb, hml, hown, fun w h => hts0 w (List.mem_cons_of_mem _ h)⟩, hK⟩
  have hD : ∀ M, va_D (rt_fr ad s.heap.size) (rt_W cA ad M) := rt_D hI (fun k h => Or.inl ⟨k, h, rfl⟩)
  have hS : va_S (rt_fr ad s.heap.size) s.heap s.heap [] := va_S.rf
  have hl := lv_entry ([.ref (ad 0), .int p1, .int p2]) (n := 3) (Nat.le_of_ble_eq_true rfl)
  rw [lg_entry_eq]
  generalize (lg_sl ([.ref (ad 0), .int p1, .int p2]) ++ List.replicate (3 - (lg_sl ([.ref (ad 0), .int p1, .int p2])).length) Slot.unset).toArray = ls at hl ⊢
  have hl : lv_has ls 3 [(0, .ref (ad 0)), (1, .int p1), (2, .int p2)] := hl
  unfold wpX12_start at hw
  refine lv_aload_n hx hb dX12_start_0 rfl (lv_at hl 0 rfl) ?_
  refine lv_iconst (v := 0) hx hb dX12_start_1 (by decide) ?_
  refine rt_put F hP hD hS (rt_c12 _ rt_k0) (rt_l12 rt_k0) inX12 tyX12 tyX12_ok nmX12 rfl 0 (by decide) kw_1139 rfl rfl rfl rfl (Nat.le_of_ble_eq_true rfl) (rt_c12 _ rt_k0) dX12_start_2 (fun M_2 H locs eM_2 hP hS => ?_)
  replace hw := hw M_2 eM_2
  refine lv_aload_n hx hb dX12_start_5 rfl (lv_at hl 0 rfl) ?_
  refine lv_iload_n hx hb dX12_start_6 rfl (lv_at hl 1 rfl) ?_
  refine lv_iload_n hx hb dX12_start_7 rfl (lv_at hl 2 rfl) ?_
  refine rt_calli (rt_runV (n := 2) (As := [.int p1, .int p2]) (rest := []) F hP hN hS (rt_frs hS.1) (rt_c12 _ rt_k0) (rt_l12 rt_k0) rfl (mtX12_refuse l D cA ad hI _ p1 p2 M_2 _ hw) kw_1175 kw_1172 kw_60 kw_1174 kw_29 ⟨by decide, by decide, by decide +kernel⟩ ⟨rfl, rfl, Nat.le_of_ble_eq_true rfl, Nat.le_of_ble_eq_true rfl⟩ rfl hl.1 rfl (Nat.le_of_ble_eq_true rfl) dX12_start_8 ⟨Nat.zero_le _, Nat.zero_le _⟩) hS (fun _ h => h) (fun r_8 M_8 H locs hw hP hS _ _ => ?_)
  exact W.zret (v := r_8) (ty := .boolean) hx hb hr (pt_zb_n hw.1) (fun t ht hW => ⟨⟨r_8, M_8, rfl, hw.2, by unfold rt_B; rw [ht]; exact hP⟩, hS.F ht⟩) hS.2.2 dX12_start_11
-- ===== X12_plain
def wpX12_plain (p1 : Int32) (M : pt_M) (Q : Int32 → pt_M → Prop) : Prop :=
  ∀ M_2 : pt_M, M_2 = pt_st M 0 0 0 → Q p1 M_2
set_option maxHeartbeats 4000000 in
set_option maxRecDepth 100000 in
theorem mtX12_plain (l : Launch) (D : va_G) (cA : Nat → ClassId) (ad : Nat → Nat) (hI : rt_I ad) (sz : Nat) (p1 : Int32) (M : pt_M) (Q : Int32 → pt_M → Prop) (hw : wpX12_plain p1 M Q) : Met l yX12_plain (Cond.code yX12_plain cX12_plain 2 (some .int) :: lw_all) ({ frames := 0, cells := 0, slots := 0, locals := 0 } : Room) (va_Pc [.ref (ad 0), .int p1] (rt_P D cA ad sz M)) (va_Qi Q (rt_B D cA ad) (rt_fr ad sz)) 0 0 (rt_fr ad sz) := by
  refine Met.ofW (cc := cX12_plain) (maxL := 2) (ret := (some .int)) (by decide) rfl ?_
  intro p e s m args below meth c s₁ B hml hv
  obtain ⟨rfl, hsz, hP, hK, hN⟩ := hv
  have hx := B.exec
  have hb := B.bytes
  have hr := B.returns
  have hts0 := atoms_spec (ws := (Cond.code yX12_plain cX12_plain 2 (some .int) :: lw_all)) B.pre
  have hown : s.vm.findClass RX12 = some m.cls := findClass_of_methodNamed B.named
  have hlocks := B.notSynchronized
  subst hsz
  have F : pt_F p m c cX12_plain 2 s _ RX12 D cA := ⟨⟨hx, hb, hml, hown, fun w h => hts0 w (List.mem_cons_of_mem _ h)⟩, hK⟩
  have hD : ∀ M, va_D (rt_fr ad s.heap.size) (rt_W cA ad M) := rt_D hI (fun k h => Or.inl ⟨k, h, rfl⟩)
  have hS : va_S (rt_fr ad s.heap.size) s.heap s.heap [] := va_S.rf
  have hl := lv_entry ([.ref (ad 0), .int p1]) (n := 2) (Nat.le_of_ble_eq_true rfl)
  rw [lg_entry_eq]
  generalize (lg_sl ([.ref (ad 0), .int p1]) ++ List.replicate (2 - (lg_sl ([.ref (ad 0), .int p1])).length) Slot.unset).toArray = ls at hl ⊢
  have hl : lv_has ls 2 [(0, .ref (ad 0)), (1, .int p1)] := hl
  unfold wpX12_plain at hw
  refine lv_aload_n hx hb dX12_plain_0 rfl (lv_at hl 0 rfl) ?_
  refine lv_iconst (v := 0) hx hb dX12_plain_1 (by decide) ?_
  refine rt_put F hP hD hS (rt_c12 _ rt_k0) (rt_l12 rt_k0) inX12 tyX12 tyX12_ok nmX12 rfl 0 (by decide) kw_1139 rfl rfl rfl rfl (Nat.le_of_ble_eq_true rfl) (rt_c12 _ rt_k0) dX12_plain_2 (fun M_2 H locs eM_2 hP hS => ?_)
  replace hw := hw M_2 eM_2
  refine lv_iload_n hx hb dX12_plain_5 rfl (lv_at hl 1 rfl) ?_
  exact W.iret (v := p1) hx hb hr (fun t ht hW => ⟨⟨p1, M_2, rfl, hw, by unfold rt_B; rw [ht]; exact hP⟩, hS.F ht⟩) hS.2.2 dX12_plain_6
-- ===== X12_isNoState
def wjX12_isNoState_25 (p1 : Int32) (Q : Int32 → pt_M → Prop)  (xs0 : Int32) (M : pt_M) : Prop :=
  pt_zb xs0 ∧ Q xs0 M
def wpX12_isNoState (p1 : Int32) (M : pt_M) (Q : Int32 → pt_M → Prop) : Prop :=
  wpJx4a65c_size_8abf5 2 M (fun (r_9 : Int32) (M_9 : pt_M) => wpX12_isIn p1 0 (r_9 - 1) M_9 (fun (r_14 : Int32) (M_14 : pt_M) => (¬ r_14 = 0 → wjX12_isNoState_25 p1 Q 0 M_14) ∧ (r_14 = 0 → wjX12_isNoState_25 p1 Q 1 M_14)))
set_option maxHeartbeats 4000000 in
set_option maxRecDepth 100000 in
theorem mtX12_isNoState (l : Launch) (D : va_G) (cA : Nat → ClassId) (ad : Nat → Nat) (hI : rt_I ad) (sz : Nat) (p1 : Int32) (M : pt_M) (Q : Int32 → pt_M → Prop) (hw : wpX12_isNoState p1 M Q) : Met l yX12_isNoState (Cond.code yX12_isNoState cX12_isNoState 2 (some .boolean) :: lw_all) ({ frames := 1, cells := 0, slots := 0, locals := 22 } : Room) (va_Pc [.ref (ad 0), .int p1] (rt_P D cA ad sz M)) (va_Qi Q (rt_B D cA ad) (rt_fr ad sz)) 0 0 (rt_fr ad sz) := by
  refine Met.ofW (cc := cX12_isNoState) (maxL := 2) (ret := (some .boolean)) (by decide) rfl ?_
  intro p e s m args below meth c s₁ B hml hv
  obtain ⟨rfl, hsz, hP, hK, hN⟩ := hv
  have hx := B.exec
  have hb := B.bytes
  have hr := B.returns
  have hts0 := atoms_spec (ws := (Cond.code yX12_isNoState cX12_isNoState 2 (some .boolean) :: lw_all)) B.pre
  have hown : s.vm.findClass RX12 = some m.cls := findClass_of_methodNamed B.named
  have hlocks := B.notSynchronized
  subst hsz
  have F : pt_F p m c cX12_isNoState 2 s _ RX12 D cA := ⟨⟨hx, hb, hml, hown, fun w h => hts0 w (List.mem_cons_of_mem _ h)⟩, hK⟩
  have hD : ∀ M, va_D (rt_fr ad s.heap.size) (rt_W cA ad M) := rt_D hI (fun k h => Or.inl ⟨k, h, rfl⟩)
  have hS : va_S (rt_fr ad s.heap.size) s.heap s.heap [] := va_S.rf
  have hl := lv_entry ([.ref (ad 0), .int p1]) (n := 2) (Nat.le_of_ble_eq_true rfl)
  rw [lg_entry_eq]
  generalize (lg_sl ([.ref (ad 0), .int p1]) ++ List.replicate (2 - (lg_sl ([.ref (ad 0), .int p1])).length) Slot.unset).toArray = ls at hl ⊢
  have hl : lv_has ls 2 [(0, .ref (ad 0)), (1, .int p1)] := hl
  have J25 : ∀ (xs0 : Int32) (M : pt_M) (H : Heap) (locs : List Loc) (ls : Array Slot), wjX12_isNoState_25 p1 Q xs0 M → va_P D pt_cl (rt_W cA ad M) H → va_S (rt_fr ad s.heap.size) s.heap H locs → lv_has ls 2 [] → W p l e (headSpec (Cond.code yX12_isNoState cX12_isNoState 2 (some .boolean) :: lw_all) ({ frames := 1, cells := 0, slots := 0, locals := 22 } : Room)).room s m ([.ref (ad 0), .int p1] : List Value).toArray below meth c H locs 0 0 (MQ below (va_Qi Q (rt_B D cA ad) (rt_fr ad s.heap.size)) ([.ref (ad 0), .int p1] : List Value).toArray s 0 0 (rt_fr ad s.heap.size)) (F0 m 25 ls [.int xs0]) := by
    intro xs0 M H locs ls hw hP hS hl
    unfold wjX12_isNoState_25 at hw
    exact W.zret (v := xs0) (ty := .boolean) hx hb hr (pt_zb_n hw.1) (fun t ht hW => ⟨⟨xs0, M, rfl, hw.2, by unfold rt_B; rw [ht]; exact hP⟩, hS.F ht⟩) hS.2.2 dX12_isNoState_25
  unfold wpX12_isNoState at hw
  refine lv_iload_n hx hb dX12_isNoState_0 rfl (lv_at hl 1 rfl) ?_
  refine lv_iconst (v := 0) hx hb dX12_isNoState_1 (by decide) ?_
  refine lv_aload_n hx hb dX12_isNoState_2 rfl (lv_at hl 0 rfl) ?_
  refine rt_get F hP (rt_c12 _ rt_k0) (rt_l12 rt_k0) inX12 rfl 1 (by decide) kw_1140 rfl rfl dX12_isNoState_3 ?_
  refine rt_get F hP (rt_c8 _ rt_k1) (rt_l8 rt_k1) inX8 rfl 0 (by decide) kw_985 rfl rfl dX12_isNoState_6 ?_
  refine rt_calli (rt_runV (n := 0) (As := []) (rest := [.int 0, .int p1]) F hP hN hS (rt_frs hS.1) (rt_c13 _ rt_k2) (rt_l13 rt_k2) rfl (mtJx4a65c_size_8abf5 l D cA ad hI _ 2 rt_k2 M _ hw) kw_1167 kw_1164 kw_64 kw_1165 kw_1166 ⟨by decide, by decide, by decide +kernel⟩ ⟨rfl, rfl, Nat.le_of_ble_eq_true rfl, Nat.le_of_ble_eq_true rfl⟩ rfl hl.1 rfl (Nat.le_of_ble_eq_true rfl) dX12_isNoState_9 ⟨Nat.zero_le _, Nat.zero_le _⟩) hS (fun _ h => h) (fun r_9 M_9 H locs hw hP hS _ _ => ?_)
  refine lv_iconst (v := 1) hx hb dX12_isNoState_12 (by decide) ?_
  refine lv_isub hx hb dX12_isNoState_13 ?_
  refine rt_calli (rt_runS (n := 3) (As := [.int p1, .int 0, .int (r_9 - 1)]) (rest := []) F hP hN hS (rt_frs hS.1) (mtX12_isIn l D cA ad hI _ p1 0 (r_9 - 1) M_9 _ hw) kw_1182 kw_1180 kw_60 kw_1181 ⟨by decide, by decide, by decide +kernel⟩ ⟨rfl, rfl, Nat.le_of_ble_eq_true rfl, Nat.le_of_ble_eq_true rfl⟩ rfl hl.1 rfl (Nat.le_of_ble_eq_true rfl) dX12_isNoState_14 ⟨Nat.zero_le _, Nat.zero_le _⟩) hS (fun _ h => h) (fun r_14 M_14 H locs hw hP hS _ _ => ?_)
  refine lv_if_ne (tgt := 24) hx hb dX12_isNoState_17 (by decide) (fun hc17 => ?_) (fun hc17 => ?_)
  · replace hw := hw.1 hc17
    refine lv_iconst (v := 0) hx hb dX12_isNoState_24 (by decide) ?_
    exact J25 0 M_14 _ _ _ hw hP hS (lv_sub hl [] rfl)
  · replace hw := hw.2 hc17
    refine lv_iconst (v := 1) hx hb dX12_isNoState_20 (by decide) ?_
    refine lv_goto (tgt := 25) hx hb dX12_isNoState_21 (by decide) ?_
    exact J25 1 M_14 _ _ _ hw hP hS (lv_sub hl [] rfl)
-- ===== X12_isNoTransition
def wjX12_isNoTransition_25 (p1 : Int32) (Q : Int32 → pt_M → Prop)  (xs0 : Int32) (M : pt_M) : Prop :=
  pt_zb xs0 ∧ Q xs0 M
def wpX12_isNoTransition (p1 : Int32) (M : pt_M) (Q : Int32 → pt_M → Prop) : Prop :=
  wpJx4a65c_size_8abf5 5 M (fun (r_9 : Int32) (M_9 : pt_M) => wpX12_isIn p1 0 (r_9 - 1) M_9 (fun (r_14 : Int32) (M_14 : pt_M) => (¬ r_14 = 0 → wjX12_isNoTransition_25 p1 Q 0 M_14) ∧ (r_14 = 0 → wjX12_isNoTransition_25 p1 Q 1 M_14)))
set_option maxHeartbeats 4000000 in
set_option maxRecDepth 100000 in
theorem mtX12_isNoTransition (l : Launch) (D : va_G) (cA : Nat → ClassId) (ad : Nat → Nat) (hI : rt_I ad) (sz : Nat) (p1 : Int32) (M : pt_M) (Q : Int32 → pt_M → Prop) (hw : wpX12_isNoTransition p1 M Q) : Met l yX12_isNoTransition (Cond.code yX12_isNoTransition cX12_isNoTransition 2 (some .boolean) :: lw_all) ({ frames := 1, cells := 0, slots := 0, locals := 22 } : Room) (va_Pc [.ref (ad 0), .int p1] (rt_P D cA ad sz M)) (va_Qi Q (rt_B D cA ad) (rt_fr ad sz)) 0 0 (rt_fr ad sz) := by
  refine Met.ofW (cc := cX12_isNoTransition) (maxL := 2) (ret := (some .boolean)) (by decide) rfl ?_
  intro p e s m args below meth c s₁ B hml hv
  obtain ⟨rfl, hsz, hP, hK, hN⟩ := hv
  have hx := B.exec
  have hb := B.bytes
  have hr := B.returns
  have hts0 := atoms_spec (ws := (Cond.code yX12_isNoTransition cX12_isNoTransition 2 (some .boolean) :: lw_all)) B.pre
  have hown : s.vm.findClass RX12 = some m.cls := findClass_of_methodNamed B.named
  have hlocks := B.notSynchronized
  subst hsz
  have F : pt_F p m c cX12_isNoTransition 2 s _ RX12 D cA := ⟨⟨hx, hb, hml, hown, fun w h => hts0 w (List.mem_cons_of_mem _ h)⟩, hK⟩
  have hD : ∀ M, va_D (rt_fr ad s.heap.size) (rt_W cA ad M) := rt_D hI (fun k h => Or.inl ⟨k, h, rfl⟩)
  have hS : va_S (rt_fr ad s.heap.size) s.heap s.heap [] := va_S.rf
  have hl := lv_entry ([.ref (ad 0), .int p1]) (n := 2) (Nat.le_of_ble_eq_true rfl)
  rw [lg_entry_eq]
  generalize (lg_sl ([.ref (ad 0), .int p1]) ++ List.replicate (2 - (lg_sl ([.ref (ad 0), .int p1])).length) Slot.unset).toArray = ls at hl ⊢
  have hl : lv_has ls 2 [(0, .ref (ad 0)), (1, .int p1)] := hl
  have J25 : ∀ (xs0 : Int32) (M : pt_M) (H : Heap) (locs : List Loc) (ls : Array Slot), wjX12_isNoTransition_25 p1 Q xs0 M → va_P D pt_cl (rt_W cA ad M) H → va_S (rt_fr ad s.heap.size) s.heap H locs → lv_has ls 2 [] → W p l e (headSpec (Cond.code yX12_isNoTransition cX12_isNoTransition 2 (some .boolean) :: lw_all) ({ frames := 1, cells := 0, slots := 0, locals := 22 } : Room)).room s m ([.ref (ad 0), .int p1] : List Value).toArray below meth c H locs 0 0 (MQ below (va_Qi Q (rt_B D cA ad) (rt_fr ad s.heap.size)) ([.ref (ad 0), .int p1] : List Value).toArray s 0 0 (rt_fr ad s.heap.size)) (F0 m 25 ls [.int xs0]) := by
    intro xs0 M H locs ls hw hP hS hl
    unfold wjX12_isNoTransition_25 at hw
    exact W.zret (v := xs0) (ty := .boolean) hx hb hr (pt_zb_n hw.1) (fun t ht hW => ⟨⟨xs0, M, rfl, hw.2, by unfold rt_B; rw [ht]; exact hP⟩, hS.F ht⟩) hS.2.2 dX12_isNoTransition_25
  unfold wpX12_isNoTransition at hw
  refine lv_iload_n hx hb dX12_isNoTransition_0 rfl (lv_at hl 1 rfl) ?_
  refine lv_iconst (v := 0) hx hb dX12_isNoTransition_1 (by decide) ?_
  refine lv_aload_n hx hb dX12_isNoTransition_2 rfl (lv_at hl 0 rfl) ?_
  refine rt_get F hP (rt_c12 _ rt_k0) (rt_l12 rt_k0) inX12 rfl 1 (by decide) kw_1140 rfl rfl dX12_isNoTransition_3 ?_
  refine rt_get F hP (rt_c8 _ rt_k1) (rt_l8 rt_k1) inX8 rfl 1 (by decide) kw_988 rfl rfl dX12_isNoTransition_6 ?_
  refine rt_calli (rt_runV (n := 0) (As := []) (rest := [.int 0, .int p1]) F hP hN hS (rt_frs hS.1) (rt_c13 _ rt_k5) (rt_l13 rt_k5) rfl (mtJx4a65c_size_8abf5 l D cA ad hI _ 5 rt_k5 M _ hw) kw_1167 kw_1164 kw_64 kw_1165 kw_1166 ⟨by decide, by decide, by decide +kernel⟩ ⟨rfl, rfl, Nat.le_of_ble_eq_true rfl, Nat.le_of_ble_eq_true rfl⟩ rfl hl.1 rfl (Nat.le_of_ble_eq_true rfl) dX12_isNoTransition_9 ⟨Nat.zero_le _, Nat.zero_le _⟩) hS (fun _ h => h) (fun r_9 M_9 H locs hw hP hS _ _ => ?_)
  refine lv_iconst (v := 1) hx hb dX12_isNoTransition_12 (by decide) ?_
  refine lv_isub hx hb dX12_isNoTransition_13 ?_
  refine rt_calli (rt_runS (n := 3) (As := [.int p1, .int 0, .int (r_9 - 1)]) (rest := []) F hP hN hS (rt_frs hS.1) (mtX12_isIn l D cA ad hI _ p1 0 (r_9 - 1) M_9 _ hw) kw_1182 kw_1180 kw_60 kw_1181 ⟨by decide, by decide, by decide +kernel⟩ ⟨rfl, rfl, Nat.le_of_ble_eq_true rfl, Nat.le_of_ble_eq_true rfl⟩ rfl hl.1 rfl (Nat.le_of_ble_eq_true rfl) dX12_isNoTransition_14 ⟨Nat.zero_le _, Nat.zero_le _⟩) hS (fun _ h => h) (fun r_14 M_14 H locs hw hP hS _ _ => ?_)
  refine lv_if_ne (tgt := 24) hx hb dX12_isNoTransition_17 (by decide) (fun hc17 => ?_) (fun hc17 => ?_)
  · replace hw := hw.1 hc17
    refine lv_iconst (v := 0) hx hb dX12_isNoTransition_24 (by decide) ?_
    exact J25 0 M_14 _ _ _ hw hP hS (lv_sub hl [] rfl)
  · replace hw := hw.2 hc17
    refine lv_iconst (v := 1) hx hb dX12_isNoTransition_20 (by decide) ?_
    refine lv_goto (tgt := 25) hx hb dX12_isNoTransition_21 (by decide) ?_
    exact J25 1 M_14 _ _ _ hw hP hS (lv_sub hl [] rfl)
-- ===== X12_isNoAction
def wjX12_isNoAction_59 (p1 : Int32) (p2 : Int32) (p3 : Int32) (Q : Int32 → pt_M → Prop)  (xs0 : Int32) (M : pt_M) : Prop :=
  pt_zb xs0 ∧ Q xs0 M
def wjX12_isNoAction_58 (p1 : Int32) (p2 : Int32) (p3 : Int32) (Q : Int32 → pt_M → Prop)   (M : pt_M) : Prop :=
  wjX12_isNoAction_59 p1 p2 p3 Q 0 M
def wjX12_isNoAction_54 (p1 : Int32) (p2 : Int32) (p3 : Int32) (Q : Int32 → pt_M → Prop)   (M : pt_M) : Prop :=
  wjX12_isNoAction_59 p1 p2 p3 Q 1 M
def wjX12_isNoAction_39 (p1 : Int32) (p2 : Int32) (p3 : Int32) (Q : Int32 → pt_M → Prop)   (M : pt_M) : Prop :=
  (¬ p1 = 3 → wjX12_isNoAction_58 p1 p2 p3 Q M) ∧ (p1 = 3 → wpX12_isIn p2 0 9 M (fun (r_48 : Int32) (M_48 : pt_M) => (¬ r_48 = 0 → wjX12_isNoAction_58 p1 p2 p3 Q M_48) ∧ (r_48 = 0 → wjX12_isNoAction_54 p1 p2 p3 Q M_48)))
def wjX12_isNoAction_19 (p1 : Int32) (p2 : Int32) (p3 : Int32) (Q : Int32 → pt_M → Prop)   (M : pt_M) : Prop :=
  wpX12_isIn p2 0 3 M (fun (r_22 : Int32) (M_22 : pt_M) => (r_22 = 0 → wjX12_isNoAction_54 p1 p2 p3 Q M_22) ∧ (¬ r_22 = 0 → wpX12_isIn p3 (-99) 99 M_22 (fun (r_33 : Int32) (M_33 : pt_M) => (r_33 = 0 → wjX12_isNoAction_54 p1 p2 p3 Q M_33) ∧ (¬ r_33 = 0 → wjX12_isNoAction_39 p1 p2 p3 Q M_33))))
def wpX12_isNoAction (p1 : Int32) (p2 : Int32) (p3 : Int32) (M : pt_M) (Q : Int32 → pt_M → Prop) : Prop :=
  wpX12_isIn p1 0 3 M (fun (r_3 : Int32) (M_3 : pt_M) => (r_3 = 0 → wjX12_isNoAction_54 p1 p2 p3 Q M_3) ∧ (¬ r_3 = 0 → (p1 = 1 → wjX12_isNoAction_19 p1 p2 p3 Q M_3) ∧ (¬ p1 = 1 → (¬ p1 = 2 → wjX12_isNoAction_39 p1 p2 p3 Q M_3) ∧ (p1 = 2 → wjX12_isNoAction_19 p1 p2 p3 Q M_3))))
set_option maxHeartbeats 4000000 in
set_option maxRecDepth 100000 in
theorem mtX12_isNoAction (l : Launch) (D : va_G) (cA : Nat → ClassId) (ad : Nat → Nat) (hI : rt_I ad) (sz : Nat) (p1 : Int32) (p2 : Int32) (p3 : Int32) (M : pt_M) (Q : Int32 → pt_M → Prop) (hw : wpX12_isNoAction p1 p2 p3 M Q) : Met l yX12_isNoAction (Cond.code yX12_isNoAction cX12_isNoAction 3 (some .boolean) :: lw_all) ({ frames := 1, cells := 0, slots := 0, locals := 22 } : Room) (va_Pc [.int p1, .int p2, .int p3] (rt_P D cA ad sz M)) (va_Qi Q (rt_B D cA ad) (rt_fr ad sz)) 0 0 (rt_fr ad sz) := by
  refine Met.ofW (cc := cX12_isNoAction) (maxL := 3) (ret := (some .boolean)) (by decide) rfl ?_
  intro p e s m args below meth c s₁ B hml hv
  obtain ⟨rfl, hsz, hP, hK, hN⟩ := hv
  have hx := B.exec
  have hb := B.bytes
  have hr := B.returns
  have hts0 := atoms_spec (ws := (Cond.code yX12_isNoAction cX12_isNoAction 3 (some .boolean) :: lw_all)) B.pre
  have hown : s.vm.findClass RX12 = some m.cls := findClass_of_methodNamed B.named
  have hlocks := B.notSynchronized
  subst hsz
  have F : pt_F p m c cX12_isNoAction 3 s _ RX12 D cA := ⟨⟨hx, hb, hml, hown, fun w h => hts0 w (List.mem_cons_of_mem _ h)⟩, hK⟩
  have hD : ∀ M, va_D (rt_fr ad s.heap.size) (rt_W cA ad M) := rt_D hI (fun k h => Or.inl ⟨k, h, rfl⟩)
  have hS : va_S (rt_fr ad s.heap.size) s.heap s.heap [] := va_S.rf
  have hl := lv_entry ([.int p1, .int p2, .int p3]) (n := 3) (Nat.le_of_ble_eq_true rfl)
  rw [lg_entry_eq]
  generalize (lg_sl ([.int p1, .int p2, .int p3]) ++ List.replicate (3 - (lg_sl ([.int p1, .int p2, .int p3])).length) Slot.unset).toArray = ls at hl ⊢
  have hl : lv_has ls 3 [(0, .int p1), (1, .int p2), (2, .int p3)] := hl
  have J59 : ∀ (xs0 : Int32) (M : pt_M) (H : Heap) (locs : List Loc) (ls : Array Slot), wjX12_isNoAction_59 p1 p2 p3 Q xs0 M → va_P D pt_cl (rt_W cA ad M) H → va_S (rt_fr ad s.heap.size) s.heap H locs → lv_has ls 3 [] → W p l e (headSpec (Cond.code yX12_isNoAction cX12_isNoAction 3 (some .boolean) :: lw_all) ({ frames := 1, cells := 0, slots := 0, locals := 22 } : Room)).room s m ([.int p1, .int p2, .int p3] : List Value).toArray below meth c H locs 0 0 (MQ below (va_Qi Q (rt_B D cA ad) (rt_fr ad s.heap.size)) ([.int p1, .int p2, .int p3] : List Value).toArray s 0 0 (rt_fr ad s.heap.size)) (F0 m 59 ls [.int xs0]) := by
    intro xs0 M H locs ls hw hP hS hl
    unfold wjX12_isNoAction_59 at hw
    exact W.zret (v := xs0) (ty := .boolean) hx hb hr (pt_zb_n hw.1) (fun t ht hW => ⟨⟨xs0, M, rfl, hw.2, by unfold rt_B; rw [ht]; exact hP⟩, hS.F ht⟩) hS.2.2 dX12_isNoAction_59
  have J58 : ∀ (M : pt_M) (H : Heap) (locs : List Loc) (ls : Array Slot), wjX12_isNoAction_58 p1 p2 p3 Q M → va_P D pt_cl (rt_W cA ad M) H → va_S (rt_fr ad s.heap.size) s.heap H locs → lv_has ls 3 [] → W p l e (headSpec (Cond.code yX12_isNoAction cX12_isNoAction 3 (some .boolean) :: lw_all) ({ frames := 1, cells := 0, slots := 0, locals := 22 } : Room)).room s m ([.int p1, .int p2, .int p3] : List Value).toArray below meth c H locs 0 0 (MQ below (va_Qi Q (rt_B D cA ad) (rt_fr ad s.heap.size)) ([.int p1, .int p2, .int p3] : List Value).toArray s 0 0 (rt_fr ad s.heap.size)) (F0 m 58 ls []) := by
    intro M H locs ls hw hP hS hl
    unfold wjX12_isNoAction_58 at hw
    refine lv_iconst (v := 0) hx hb dX12_isNoAction_58 (by decide) ?_
    exact J59 0 M _ _ _ hw hP hS (lv_sub hl [] rfl)
  have J54 : ∀ (M : pt_M) (H : Heap) (locs : List Loc) (ls : Array Slot), wjX12_isNoAction_54 p1 p2 p3 Q M → va_P D pt_cl (rt_W cA ad M) H → va_S (rt_fr ad s.heap.size) s.heap H locs → lv_has ls 3 [] → W p l e (headSpec (Cond.code yX12_isNoAction cX12_isNoAction 3 (some .boolean) :: lw_all) ({ frames := 1, cells := 0, slots := 0, locals := 22 } : Room)).room s m ([.int p1, .int p2, .int p3] : List Value).toArray below meth c H locs 0 0 (MQ below (va_Qi Q (rt_B D cA ad) (rt_fr ad s.heap.size)) ([.int p1, .int p2, .int p3] : List Value).toArray s 0 0 (rt_fr ad s.heap.size)) (F0 m 54 ls []) := by
    intro M H locs ls hw hP hS hl
    unfold wjX12_isNoAction_54 at hw
    refine lv_iconst (v := 1) hx hb dX12_isNoAction_54 (by decide) ?_
    refine lv_goto (tgt := 59) hx hb dX12_isNoAction_55 (by decide) ?_
    exact J59 1 M _ _ _ hw hP hS (lv_sub hl [] rfl)
  have J39 : ∀ (M : pt_M) (H : Heap) (locs : List Loc) (ls : Array Slot), wjX12_isNoAction_39 p1 p2 p3 Q M → va_P D pt_cl (rt_W cA ad M) H → va_S (rt_fr ad s.heap.size) s.heap H locs → lv_has ls 3 [(0, .int p1), (1, .int p2)] → W p l e (headSpec (Cond.code yX12_isNoAction cX12_isNoAction 3 (some .boolean) :: lw_all) ({ frames := 1, cells := 0, slots := 0, locals := 22 } : Room)).room s m ([.int p1, .int p2, .int p3] : List Value).toArray below meth c H locs 0 0 (MQ below (va_Qi Q (rt_B D cA ad) (rt_fr ad s.heap.size)) ([.int p1, .int p2, .int p3] : List Value).toArray s 0 0 (rt_fr ad s.heap.size)) (F0 m 39 ls []) := by
    intro M H locs ls hw hP hS hl
    unfold wjX12_isNoAction_39 at hw
    refine lv_iload_n hx hb dX12_isNoAction_39 rfl (lv_at hl 0 rfl) ?_
    refine lv_iconst (v := 3) hx hb dX12_isNoAction_40 (by decide) ?_
    refine lv_icmp_ne (tgt := 58) hx hb dX12_isNoAction_41 (by decide) (fun hc41 => ?_) (fun hc41 => ?_)
    · replace hw := hw.1 hc41
      exact J58 M _ _ _ hw hP hS (lv_sub hl [] rfl)
    · replace hw := hw.2 hc41
      refine lv_iload_n hx hb dX12_isNoAction_44 rfl (lv_at hl 1 rfl) ?_
      refine lv_iconst (v := 0) hx hb dX12_isNoAction_45 (by decide) ?_
      refine lv_bipush (v := 9) hx hb dX12_isNoAction_46 (by decide) ?_
      refine rt_calli (rt_runS (n := 3) (As := [.int p2, .int 0, .int 9]) (rest := []) F hP hN hS (rt_frs hS.1) (mtX12_isIn l D cA ad hI _ p2 0 9 M _ hw) kw_1182 kw_1180 kw_60 kw_1181 ⟨by decide, by decide, by decide +kernel⟩ ⟨rfl, rfl, Nat.le_of_ble_eq_true rfl, Nat.le_of_ble_eq_true rfl⟩ rfl hl.1 rfl (Nat.le_of_ble_eq_true rfl) dX12_isNoAction_48 ⟨Nat.zero_le _, Nat.zero_le _⟩) hS (fun _ h => h) (fun r_48 M_48 H locs hw hP hS _ _ => ?_)
      refine lv_if_ne (tgt := 58) hx hb dX12_isNoAction_51 (by decide) (fun hc51 => ?_) (fun hc51 => ?_)
      · replace hw := hw.1 hc51
        exact J58 M_48 _ _ _ hw hP hS (lv_sub hl [] rfl)
      · replace hw := hw.2 hc51
        exact J54 M_48 _ _ _ hw hP hS (lv_sub hl [] rfl)
  have J19 : ∀ (M : pt_M) (H : Heap) (locs : List Loc) (ls : Array Slot), wjX12_isNoAction_19 p1 p2 p3 Q M → va_P D pt_cl (rt_W cA ad M) H → va_S (rt_fr ad s.heap.size) s.heap H locs → lv_has ls 3 [(0, .int p1), (1, .int p2), (2, .int p3)] → W p l e (headSpec (Cond.code yX12_isNoAction cX12_isNoAction 3 (some .boolean) :: lw_all) ({ frames := 1, cells := 0, slots := 0, locals := 22 } : Room)).room s m ([.int p1, .int p2, .int p3] : List Value).toArray below meth c H locs 0 0 (MQ below (va_Qi Q (rt_B D cA ad) (rt_fr ad s.heap.size)) ([.int p1, .int p2, .int p3] : List Value).toArray s 0 0 (rt_fr ad s.heap.size)) (F0 m 19 ls []) := by
    intro M H locs ls hw hP hS hl
    unfold wjX12_isNoAction_19 at hw
    refine lv_iload_n hx hb dX12_isNoAction_19 rfl (lv_at hl 1 rfl) ?_
    refine lv_iconst (v := 0) hx hb dX12_isNoAction_20 (by decide) ?_
    refine lv_iconst (v := 3) hx hb dX12_isNoAction_21 (by decide) ?_
    refine rt_calli (rt_runS (n := 3) (As := [.int p2, .int 0, .int 3]) (rest := []) F hP hN hS (rt_frs hS.1) (mtX12_isIn l D cA ad hI _ p2 0 3 M _ hw) kw_1182 kw_1180 kw_60 kw_1181 ⟨by decide, by decide, by decide +kernel⟩ ⟨rfl, rfl, Nat.le_of_ble_eq_true rfl, Nat.le_of_ble_eq_true rfl⟩ rfl hl.1 rfl (Nat.le_of_ble_eq_true rfl) dX12_isNoAction_22 ⟨Nat.zero_le _, Nat.zero_le _⟩) hS (fun _ h => h) (fun r_22 M_22 H locs hw hP hS _ _ => ?_)
    refine lv_if_eq (tgt := 54) hx hb dX12_isNoAction_25 (by decide) (fun hc25 => ?_) (fun hc25 => ?_)
    · replace hw := hw.1 hc25
      exact J54 M_22 _ _ _ hw hP hS (lv_sub hl [] rfl)
    · replace hw := hw.2 hc25
      refine lv_iload_n hx hb dX12_isNoAction_28 rfl (lv_at hl 2 rfl) ?_
      refine lv_bipush (v := (-99)) hx hb dX12_isNoAction_29 (by decide) ?_
      refine lv_bipush (v := 99) hx hb dX12_isNoAction_31 (by decide) ?_
      refine rt_calli (rt_runS (n := 3) (As := [.int p3, .int (-99), .int 99]) (rest := []) F hP hN hS (rt_frs hS.1) (mtX12_isIn l D cA ad hI _ p3 (-99) 99 M_22 _ hw) kw_1182 kw_1180 kw_60 kw_1181 ⟨by decide, by decide, by decide +kernel⟩ ⟨rfl, rfl, Nat.le_of_ble_eq_true rfl, Nat.le_of_ble_eq_true rfl⟩ rfl hl.1 rfl (Nat.le_of_ble_eq_true rfl) dX12_isNoAction_33 ⟨Nat.zero_le _, Nat.zero_le _⟩) hS (fun _ h => h) (fun r_33 M_33 H locs hw hP hS _ _ => ?_)
      refine lv_if_eq (tgt := 54) hx hb dX12_isNoAction_36 (by decide) (fun hc36 => ?_) (fun hc36 => ?_)
      · replace hw := hw.1 hc36
        exact J54 M_33 _ _ _ hw hP hS (lv_sub hl [] rfl)
      · replace hw := hw.2 hc36
        exact J39 M_33 _ _ _ hw hP hS (lv_sub hl [0, 1] rfl)
  unfold wpX12_isNoAction at hw
  refine lv_iload_n hx hb dX12_isNoAction_0 rfl (lv_at hl 0 rfl) ?_
  refine lv_iconst (v := 0) hx hb dX12_isNoAction_1 (by decide) ?_
  refine lv_iconst (v := 3) hx hb dX12_isNoAction_2 (by decide) ?_
  refine rt_calli (rt_runS (n := 3) (As := [.int p1, .int 0, .int 3]) (rest := []) F hP hN hS (rt_frs hS.1) (mtX12_isIn l D cA ad hI _ p1 0 3 M _ hw) kw_1182 kw_1180 kw_60 kw_1181 ⟨by decide, by decide, by decide +kernel⟩ ⟨rfl, rfl, Nat.le_of_ble_eq_true rfl, Nat.le_of_ble_eq_true rfl⟩ rfl hl.1 rfl (Nat.le_of_ble_eq_true rfl) dX12_isNoAction_3 ⟨Nat.zero_le _, Nat.zero_le _⟩) hS (fun _ h => h) (fun r_3 M_3 H locs hw hP hS _ _ => ?_)
  refine lv_if_eq (tgt := 54) hx hb dX12_isNoAction_6 (by decide) (fun hc6 => ?_) (fun hc6 => ?_)
  · replace hw := hw.1 hc6
    exact J54 M_3 _ _ _ hw hP hS (lv_sub hl [] rfl)
  · replace hw := hw.2 hc6
    refine lv_iload_n hx hb dX12_isNoAction_9 rfl (lv_at hl 0 rfl) ?_
    refine lv_iconst (v := 1) hx hb dX12_isNoAction_10 (by decide) ?_
    refine lv_icmp_eq (tgt := 19) hx hb dX12_isNoAction_11 (by decide) (fun hc11 => ?_) (fun hc11 => ?_)
    · replace hw := hw.1 hc11
      exact J19 M_3 _ _ _ hw hP hS (lv_sub hl [0, 1, 2] rfl)
    · replace hw := hw.2 hc11
      refine lv_iload_n hx hb dX12_isNoAction_14 rfl (lv_at hl 0 rfl) ?_
      refine lv_iconst (v := 2) hx hb dX12_isNoAction_15 (by decide) ?_
      refine lv_icmp_ne (tgt := 39) hx hb dX12_isNoAction_16 (by decide) (fun hc16 => ?_) (fun hc16 => ?_)
      · replace hw := hw.1 hc16
        exact J39 M_3 _ _ _ hw hP hS (lv_sub hl [0, 1] rfl)
      · replace hw := hw.2 hc16
        exact J19 M_3 _ _ _ hw hP hS (lv_sub hl [0, 1, 2] rfl)
-- ===== X12_setFirst
def wjX12_setFirst_83 (p1 : Int32) (p2 : Int32) (Q : Int32 → pt_M → Prop)   (M : pt_M) : Prop :=
  Q 0 M
def wjX12_setFirst_76 (p1 : Int32) (p2 : Int32) (Q : Int32 → pt_M → Prop)  (xs1 : Int32) (M : pt_M) : Prop :=
  wpX12_refuse xs1 3 M (fun (r_77 : Int32) (M_77 : pt_M) => (r_77 = 0 → wpX8_first p1 M_77 (fun (r_90 : Int32) (M_90 : pt_M) => wpJx4a65c_get_915e3 p1 M_90 (fun (M_102 : pt_M) => ∀ M_109 : pt_M, M_109 = pt_st M_102 4 2 p2 → Q r_90 M_109))) ∧ (¬ r_77 = 0 → wjX12_setFirst_83 p1 p2 Q M_77))
def wjX12_setFirst_71 (p1 : Int32) (p2 : Int32) (Q : Int32 → pt_M → Prop)   (M : pt_M) : Prop :=
  wjX12_setFirst_76 p1 p2 Q 1 M
def wjX12_setFirst_37 (p1 : Int32) (p2 : Int32) (Q : Int32 → pt_M → Prop)  (xs1 : Int32) (M : pt_M) : Prop :=
  wpX12_refuse xs1 2 M (fun (r_38 : Int32) (M_38 : pt_M) => (¬ r_38 = 0 → wjX12_setFirst_83 p1 p2 Q M_38) ∧ (r_38 = 0 → wpX8_kind p1 M_38 (fun (r_50 : Int32) (M_50 : pt_M) => (¬ r_50 = 0 → wjX12_setFirst_71 p1 p2 Q M_50) ∧ (r_50 = 0 → wpX8_parts p1 M_50 (fun (r_61 : Int32) (M_61 : pt_M) => wpX12_has r_61 p2 M_61 (fun (r_65 : Int32) (M_65 : pt_M) => (¬ r_65 = 0 → wjX12_setFirst_76 p1 p2 Q 0 M_65) ∧ (r_65 = 0 → wjX12_setFirst_71 p1 p2 Q M_65)))))))
def wjX12_setFirst_32 (p1 : Int32) (p2 : Int32) (Q : Int32 → pt_M → Prop)   (M : pt_M) : Prop :=
  wjX12_setFirst_37 p1 p2 Q 1 M
def wpX12_setFirst (p1 : Int32) (p2 : Int32) (M : pt_M) (Q : Int32 → pt_M → Prop) : Prop :=
  wpX12_start (M 6 0) 1 M (fun (r_9 : Int32) (M_9 : pt_M) => (¬ r_9 = 0 → wjX12_setFirst_83 p1 p2 Q M_9) ∧ (r_9 = 0 → wpX12_isNoState p1 M_9 (fun (r_18 : Int32) (M_18 : pt_M) => (¬ r_18 = 0 → wjX12_setFirst_32 p1 p2 Q M_18) ∧ (r_18 = 0 → wpX12_isNoState p2 M_18 (fun (r_26 : Int32) (M_26 : pt_M) => (r_26 = 0 → wjX12_setFirst_37 p1 p2 Q 0 M_26) ∧ (¬ r_26 = 0 → wjX12_setFirst_32 p1 p2 Q M_26))))))
set_option maxHeartbeats 4000000 in
set_option maxRecDepth 100000 in
theorem mtX12_setFirst (l : Launch) (D : va_G) (cA : Nat → ClassId) (ad : Nat → Nat) (hI : rt_I ad) (sz : Nat) (p1 : Int32) (p2 : Int32) (M : pt_M) (Q : Int32 → pt_M → Prop) (hw : wpX12_setFirst p1 p2 M Q) : Met l yX12_setFirst (Cond.code yX12_setFirst cX12_setFirst 4 (some .int) :: lw_all) ({ frames := 6, cells := 0, slots := 0, locals := 129 } : Room) (va_Pc [.ref (ad 0), .int p1, .int p2] (rt_P D cA ad sz M)) (va_Qi Q (rt_B D cA ad) (rt_fr ad sz)) 0 0 (rt_fr ad sz) := by
  refine Met.ofW (cc := cX12_setFirst) (maxL := 4) (ret := (some .int)) (by decide) rfl ?_
  intro p e s m args below meth c s₁ B hml hv
  obtain ⟨rfl, hsz, hP, hK, hN⟩ := hv
  have hx := B.exec
  have hb := B.bytes
  have hr := B.returns
  have hts0 := atoms_spec (ws := (Cond.code yX12_setFirst cX12_setFirst 4 (some .int) :: lw_all)) B.pre
  have hown : s.vm.findClass RX12 = some m.cls := findClass_of_methodNamed B.named
  have hlocks := B.notSynchronized
  subst hsz
  have F : pt_F p m c cX12_setFirst 4 s _ RX12 D cA := ⟨⟨hx, hb, hml, hown, fun w h => hts0 w (List.mem_cons_of_mem _ h)⟩, hK⟩
  have hD : ∀ M, va_D (rt_fr ad s.heap.size) (rt_W cA ad M) := rt_D hI (fun k h => Or.inl ⟨k, h, rfl⟩)
  have hS : va_S (rt_fr ad s.heap.size) s.heap s.heap [] := va_S.rf
  have hl := lv_entry ([.ref (ad 0), .int p1, .int p2]) (n := 4) (Nat.le_of_ble_eq_true rfl)
  rw [lg_entry_eq]
  generalize (lg_sl ([.ref (ad 0), .int p1, .int p2]) ++ List.replicate (4 - (lg_sl ([.ref (ad 0), .int p1, .int p2])).length) Slot.unset).toArray = ls at hl ⊢
  have hl : lv_has ls 4 [(0, .ref (ad 0)), (1, .int p1), (2, .int p2)] := hl
  have J83 : ∀ (M : pt_M) (H : Heap) (locs : List Loc) (ls : Array Slot), wjX12_setFirst_83 p1 p2 Q M → va_P D pt_cl (rt_W cA ad M) H → va_S (rt_fr ad s.heap.size) s.heap H locs → lv_has ls 4 [] → W p l e (headSpec (Cond.code yX12_setFirst cX12_setFirst 4 (some .int) :: lw_all) ({ frames := 6, cells := 0, slots := 0, locals := 129 } : Room)).room s m ([.ref (ad 0), .int p1, .int p2] : List Value).toArray below meth c H locs 0 0 (MQ below (va_Qi Q (rt_B D cA ad) (rt_fr ad s.heap.size)) ([.ref (ad 0), .int p1, .int p2] : List Value).toArray s 0 0 (rt_fr ad s.heap.size)) (F0 m 83 ls []) := by
    intro M H locs ls hw hP hS hl
    unfold wjX12_setFirst_83 at hw
    refine lv_iconst (v := 0) hx hb dX12_setFirst_83 (by decide) ?_
    exact W.iret (v := 0) hx hb hr (fun t ht hW => ⟨⟨0, M, rfl, hw, by unfold rt_B; rw [ht]; exact hP⟩, hS.F ht⟩) hS.2.2 dX12_setFirst_84
  have J76 : ∀ (xs1 : Int32) (M : pt_M) (H : Heap) (locs : List Loc) (ls : Array Slot), wjX12_setFirst_76 p1 p2 Q xs1 M → va_P D pt_cl (rt_W cA ad M) H → va_S (rt_fr ad s.heap.size) s.heap H locs → lv_has ls 4 [(0, .ref (ad 0)), (1, .int p1), (2, .int p2)] → W p l e (headSpec (Cond.code yX12_setFirst cX12_setFirst 4 (some .int) :: lw_all) ({ frames := 6, cells := 0, slots := 0, locals := 129 } : Room)).room s m ([.ref (ad 0), .int p1, .int p2] : List Value).toArray below meth c H locs 0 0 (MQ below (va_Qi Q (rt_B D cA ad) (rt_fr ad s.heap.size)) ([.ref (ad 0), .int p1, .int p2] : List Value).toArray s 0 0 (rt_fr ad s.heap.size)) (F0 m 76 ls [.int xs1, .ref (ad 0)]) := by
    intro xs1 M H locs ls hw hP hS hl
    unfold wjX12_setFirst_76 at hw
    refine lv_iconst (v := 3) hx hb dX12_setFirst_76 (by decide) ?_
    refine rt_calli (rt_runV (n := 2) (As := [.int xs1, .int 3]) (rest := []) F hP hN hS (rt_frs hS.1) (rt_c12 _ rt_k0) (rt_l12 rt_k0) rfl (mtX12_refuse l D cA ad hI _ xs1 3 M _ hw) kw_1175 kw_1172 kw_60 kw_1174 kw_29 ⟨by decide, by decide, by decide +kernel⟩ ⟨rfl, rfl, Nat.le_of_ble_eq_true rfl, Nat.le_of_ble_eq_true rfl⟩ rfl hl.1 rfl (Nat.le_of_ble_eq_true rfl) dX12_setFirst_77 ⟨Nat.zero_le _, Nat.zero_le _⟩) hS (fun _ h => h) (fun r_77 M_77 H locs hw hP hS _ _ => ?_)
    refine lv_if_eq (tgt := 85) hx hb dX12_setFirst_80 (by decide) (fun hc80 => ?_) (fun hc80 => ?_)
    · replace hw := hw.1 hc80
      refine lv_aload_n hx hb dX12_setFirst_85 rfl (lv_at hl 0 rfl) ?_
      refine rt_get F hP (rt_c12 _ rt_k0) (rt_l12 rt_k0) inX12 rfl 1 (by decide) kw_1140 rfl rfl dX12_setFirst_86 ?_
      refine lv_iload_n hx hb dX12_setFirst_89 rfl (lv_at hl 1 rfl) ?_
      refine rt_calli (rt_runV (n := 1) (As := [.int p1]) (rest := []) F hP hN hS (rt_frs hS.1) (rt_c8 _ rt_k1) (rt_l8 rt_k1) rfl (mtX8_first l D cA ad hI _ p1 M_77 _ hw) kw_1230 kw_1227 kw_61 kw_1228 kw_1229 ⟨by decide, by decide, by decide +kernel⟩ ⟨rfl, rfl, Nat.le_of_ble_eq_true rfl, Nat.le_of_ble_eq_true rfl⟩ rfl hl.1 rfl (Nat.le_of_ble_eq_true rfl) dX12_setFirst_90 ⟨Nat.zero_le _, Nat.zero_le _⟩) hS (fun _ h => h) (fun r_90 M_90 H locs hw hP hS _ _ => ?_)
      refine lv_istore_n (lv' := [(3, .int r_90), (0, .ref (ad 0)), (1, .int p1), (2, .int p2)]) hx hb dX12_setFirst_93 rfl hl (by decide) rfl (fun ls hl => ?_)
      refine lv_aload_n hx hb dX12_setFirst_94 rfl (lv_at hl 1 rfl) ?_
      refine rt_get F hP (rt_c12 _ rt_k0) (rt_l12 rt_k0) inX12 rfl 1 (by decide) kw_1140 rfl rfl dX12_setFirst_95 ?_
      refine rt_get F hP (rt_c8 _ rt_k1) (rt_l8 rt_k1) inX8 rfl 0 (by decide) kw_985 rfl rfl dX12_setFirst_98 ?_
      refine lv_iload_n hx hb dX12_setFirst_101 rfl (lv_at hl 2 rfl) ?_
      refine rt_call4 (rt_runV (n := 1) (As := [.int p1]) (rest := []) F hP hN hS (rt_frs hS.1) (rt_c13 _ rt_k2) (rt_l13 rt_k2) rfl (mtJx4a65c_get_915e3 l D cA ad hI _ p1 M_90 _ hw) kw_1186 kw_1183 kw_64 kw_1184 kw_1185 ⟨by decide, by decide, by decide +kernel⟩ ⟨rfl, rfl, (Nat.le_of_ble_eq_true rfl), (Nat.le_of_ble_eq_true rfl)⟩ rfl hl.1 rfl (Nat.le_of_ble_eq_true rfl) dX12_setFirst_102 ⟨Nat.zero_le _, Nat.zero_le _⟩) hS (fun _ h => h) (fun M_102 H locs hw hP hS _ _ => ?_)
      refine rt_cast4 F hP kw_1046 dX12_setFirst_105 ?_
      refine lv_iload_n hx hb dX12_setFirst_108 rfl (lv_at hl 3 rfl) ?_
      refine rt_put F hP hD hS (rt_c10 _ rt_k4) (rt_l10 rt_k4) inX10 tyX10 tyX10_ok nmX10 rfl 2 (by decide) kw_1062 rfl rfl rfl rfl (Nat.le_of_ble_eq_true rfl) (rt_c10 _ rt_k4) dX12_setFirst_109 (fun M_109 H locs eM_109 hP hS => ?_)
      replace hw := hw M_109 eM_109
      refine lv_iload_n hx hb dX12_setFirst_112 rfl (lv_at hl 0 rfl) ?_
      exact W.iret (v := r_90) hx hb hr (fun t ht hW => ⟨⟨r_90, M_109, rfl, hw, by unfold rt_B; rw [ht]; exact hP⟩, hS.F ht⟩) hS.2.2 dX12_setFirst_113
    · replace hw := hw.2 hc80
      exact J83 M_77 _ _ _ hw hP hS (lv_sub hl [] rfl)
  have J71 : ∀ (M : pt_M) (H : Heap) (locs : List Loc) (ls : Array Slot), wjX12_setFirst_71 p1 p2 Q M → va_P D pt_cl (rt_W cA ad M) H → va_S (rt_fr ad s.heap.size) s.heap H locs → lv_has ls 4 [(0, .ref (ad 0)), (1, .int p1), (2, .int p2)] → W p l e (headSpec (Cond.code yX12_setFirst cX12_setFirst 4 (some .int) :: lw_all) ({ frames := 6, cells := 0, slots := 0, locals := 129 } : Room)).room s m ([.ref (ad 0), .int p1, .int p2] : List Value).toArray below meth c H locs 0 0 (MQ below (va_Qi Q (rt_B D cA ad) (rt_fr ad s.heap.size)) ([.ref (ad 0), .int p1, .int p2] : List Value).toArray s 0 0 (rt_fr ad s.heap.size)) (F0 m 71 ls [.ref (ad 0)]) := by
    intro M H locs ls hw hP hS hl
    unfold wjX12_setFirst_71 at hw
    refine lv_iconst (v := 1) hx hb dX12_setFirst_71 (by decide) ?_
    refine lv_goto (tgt := 76) hx hb dX12_setFirst_72 (by decide) ?_
    exact J76 1 M _ _ _ hw hP hS (lv_sub hl [0, 1, 2] rfl)
  have J37 : ∀ (xs1 : Int32) (M : pt_M) (H : Heap) (locs : List Loc) (ls : Array Slot), wjX12_setFirst_37 p1 p2 Q xs1 M → va_P D pt_cl (rt_W cA ad M) H → va_S (rt_fr ad s.heap.size) s.heap H locs → lv_has ls 4 [(0, .ref (ad 0)), (1, .int p1), (2, .int p2)] → W p l e (headSpec (Cond.code yX12_setFirst cX12_setFirst 4 (some .int) :: lw_all) ({ frames := 6, cells := 0, slots := 0, locals := 129 } : Room)).room s m ([.ref (ad 0), .int p1, .int p2] : List Value).toArray below meth c H locs 0 0 (MQ below (va_Qi Q (rt_B D cA ad) (rt_fr ad s.heap.size)) ([.ref (ad 0), .int p1, .int p2] : List Value).toArray s 0 0 (rt_fr ad s.heap.size)) (F0 m 37 ls [.int xs1, .ref (ad 0)]) := by
    intro xs1 M H locs ls hw hP hS hl
    unfold wjX12_setFirst_37 at hw
    refine lv_iconst (v := 2) hx hb dX12_setFirst_37 (by decide) ?_
    refine rt_calli (rt_runV (n := 2) (As := [.int xs1, .int 2]) (rest := []) F hP hN hS (rt_frs hS.1) (rt_c12 _ rt_k0) (rt_l12 rt_k0) rfl (mtX12_refuse l D cA ad hI _ xs1 2 M _ hw) kw_1175 kw_1172 kw_60 kw_1174 kw_29 ⟨by decide, by decide, by decide +kernel⟩ ⟨rfl, rfl, Nat.le_of_ble_eq_true rfl, Nat.le_of_ble_eq_true rfl⟩ rfl hl.1 rfl (Nat.le_of_ble_eq_true rfl) dX12_setFirst_38 ⟨Nat.zero_le _, Nat.zero_le _⟩) hS (fun _ h => h) (fun r_38 M_38 H locs hw hP hS _ _ => ?_)
    refine lv_if_ne (tgt := 83) hx hb dX12_setFirst_41 (by decide) (fun hc41 => ?_) (fun hc41 => ?_)
    · replace hw := hw.1 hc41
      exact J83 M_38 _ _ _ hw hP hS (lv_sub hl [] rfl)
    · replace hw := hw.2 hc41
      refine lv_aload_n hx hb dX12_setFirst_44 rfl (lv_at hl 0 rfl) ?_
      refine lv_aload_n hx hb dX12_setFirst_45 rfl (lv_at hl 0 rfl) ?_
      refine rt_get F hP (rt_c12 _ rt_k0) (rt_l12 rt_k0) inX12 rfl 1 (by decide) kw_1140 rfl rfl dX12_setFirst_46 ?_
      refine lv_iload_n hx hb dX12_setFirst_49 rfl (lv_at hl 1 rfl) ?_
      refine rt_calli (rt_runV (n := 1) (As := [.int p1]) (rest := [.ref (ad 0)]) F hP hN hS (rt_frs hS.1) (rt_c8 _ rt_k1) (rt_l8 rt_k1) rfl (mtX8_kind l D cA ad hI _ p1 M_38 _ hw) kw_1204 kw_1201 kw_61 kw_1202 kw_1203 ⟨by decide, by decide, by decide +kernel⟩ ⟨rfl, rfl, Nat.le_of_ble_eq_true rfl, Nat.le_of_ble_eq_true rfl⟩ rfl hl.1 rfl (Nat.le_of_ble_eq_true rfl) dX12_setFirst_50 ⟨Nat.zero_le _, Nat.zero_le _⟩) hS (fun _ h => h) (fun r_50 M_50 H locs hw hP hS _ _ => ?_)
      refine lv_if_ne (tgt := 71) hx hb dX12_setFirst_53 (by decide) (fun hc53 => ?_) (fun hc53 => ?_)
      · replace hw := hw.1 hc53
        exact J71 M_50 _ _ _ hw hP hS (lv_sub hl [0, 1, 2] rfl)
      · replace hw := hw.2 hc53
        refine lv_aload_n hx hb dX12_setFirst_56 rfl (lv_at hl 0 rfl) ?_
        refine rt_get F hP (rt_c12 _ rt_k0) (rt_l12 rt_k0) inX12 rfl 1 (by decide) kw_1140 rfl rfl dX12_setFirst_57 ?_
        refine lv_iload_n hx hb dX12_setFirst_60 rfl (lv_at hl 1 rfl) ?_
        refine rt_calli (rt_runV (n := 1) (As := [.int p1]) (rest := [.ref (ad 0)]) F hP hN hS (rt_frs hS.1) (rt_c8 _ rt_k1) (rt_l8 rt_k1) rfl (mtX8_parts l D cA ad hI _ p1 M_50 _ hw) kw_1214 kw_1211 kw_61 kw_1212 kw_1213 ⟨by decide, by decide, by decide +kernel⟩ ⟨rfl, rfl, Nat.le_of_ble_eq_true rfl, Nat.le_of_ble_eq_true rfl⟩ rfl hl.1 rfl (Nat.le_of_ble_eq_true rfl) dX12_setFirst_61 ⟨Nat.zero_le _, Nat.zero_le _⟩) hS (fun _ h => h) (fun r_61 M_61 H locs hw hP hS _ _ => ?_)
        refine lv_iload_n hx hb dX12_setFirst_64 rfl (lv_at hl 2 rfl) ?_
        refine rt_calli (rt_runS (n := 2) (As := [.int r_61, .int p2]) (rest := [.ref (ad 0)]) F hP hN hS (rt_frs hS.1) (mtX12_has l D cA ad hI _ r_61 p2 M_61 _ hw) kw_1226 kw_1224 kw_60 kw_1225 ⟨by decide, by decide, by decide +kernel⟩ ⟨rfl, rfl, Nat.le_of_ble_eq_true rfl, Nat.le_of_ble_eq_true rfl⟩ rfl hl.1 rfl (Nat.le_of_ble_eq_true rfl) dX12_setFirst_65 ⟨Nat.zero_le _, Nat.zero_le _⟩) hS (fun _ h => h) (fun r_65 M_65 H locs hw hP hS _ _ => ?_)
        refine lv_if_ne (tgt := 75) hx hb dX12_setFirst_68 (by decide) (fun hc68 => ?_) (fun hc68 => ?_)
        · replace hw := hw.1 hc68
          refine lv_iconst (v := 0) hx hb dX12_setFirst_75 (by decide) ?_
          exact J76 0 M_65 _ _ _ hw hP hS (lv_sub hl [0, 1, 2] rfl)
        · replace hw := hw.2 hc68
          exact J71 M_65 _ _ _ hw hP hS (lv_sub hl [0, 1, 2] rfl)
  have J32 : ∀ (M : pt_M) (H : Heap) (locs : List Loc) (ls : Array Slot), wjX12_setFirst_32 p1 p2 Q M → va_P D pt_cl (rt_W cA ad M) H → va_S (rt_fr ad s.heap.size) s.heap H locs → lv_has ls 4 [(0, .ref (ad 0)), (1, .int p1), (2, .int p2)] → W p l e (headSpec (Cond.code yX12_setFirst cX12_setFirst 4 (some .int) :: lw_all) ({ frames := 6, cells := 0, slots := 0, locals := 129 } : Room)).room s m ([.ref (ad 0), .int p1, .int p2] : List Value).toArray below meth c H locs 0 0 (MQ below (va_Qi Q (rt_B D cA ad) (rt_fr ad s.heap.size)) ([.ref (ad 0), .int p1, .int p2] : List Value).toArray s 0 0 (rt_fr ad s.heap.size)) (F0 m 32 ls [.ref (ad 0)]) := by
    intro M H locs ls hw hP hS hl
    unfold wjX12_setFirst_32 at hw
    refine lv_iconst (v := 1) hx hb dX12_setFirst_32 (by decide) ?_
    refine lv_goto (tgt := 37) hx hb dX12_setFirst_33 (by decide) ?_
    exact J37 1 M _ _ _ hw hP hS (lv_sub hl [0, 1, 2] rfl)
  unfold wpX12_setFirst at hw
  refine lv_aload_n hx hb dX12_setFirst_0 rfl (lv_at hl 0 rfl) ?_
  refine lv_aload_n hx hb dX12_setFirst_1 rfl (lv_at hl 0 rfl) ?_
  refine rt_get F hP (rt_c12 _ rt_k0) (rt_l12 rt_k0) inX12 rfl 2 (by decide) kw_1142 rfl rfl dX12_setFirst_2 ?_
  refine rt_get F hP (rt_c9 _ rt_k6) (rt_l9 rt_k6) inX9 rfl 0 (by decide) kw_1004 rfl rfl dX12_setFirst_5 ?_
  refine lv_iconst (v := 1) hx hb dX12_setFirst_8 (by decide) ?_
  refine rt_calli (rt_runV (n := 2) (As := [.int (M 6 0), .int 1]) (rest := []) F hP hN hS (rt_frs hS.1) (rt_c12 _ rt_k0) (rt_l12 rt_k0) rfl (mtX12_start l D cA ad hI _ (M 6 0) 1 M _ hw) kw_1171 kw_1168 kw_60 kw_1170 kw_28 ⟨by decide, by decide, by decide +kernel⟩ ⟨rfl, rfl, Nat.le_of_ble_eq_true rfl, Nat.le_of_ble_eq_true rfl⟩ rfl hl.1 rfl (Nat.le_of_ble_eq_true rfl) dX12_setFirst_9 ⟨Nat.zero_le _, Nat.zero_le _⟩) hS (fun _ h => h) (fun r_9 M_9 H locs hw hP hS _ _ => ?_)
  refine lv_if_ne (tgt := 83) hx hb dX12_setFirst_12 (by decide) (fun hc12 => ?_) (fun hc12 => ?_)
  · replace hw := hw.1 hc12
    exact J83 M_9 _ _ _ hw hP hS (lv_sub hl [] rfl)
  · replace hw := hw.2 hc12
    refine lv_aload_n hx hb dX12_setFirst_15 rfl (lv_at hl 0 rfl) ?_
    refine lv_aload_n hx hb dX12_setFirst_16 rfl (lv_at hl 0 rfl) ?_
    refine lv_iload_n hx hb dX12_setFirst_17 rfl (lv_at hl 1 rfl) ?_
    refine rt_calli (rt_runV (n := 1) (As := [.int p1]) (rest := [.ref (ad 0)]) F hP hN hS (rt_frs hS.1) (rt_c12 _ rt_k0) (rt_l12 rt_k0) rfl (mtX12_isNoState l D cA ad hI _ p1 M_9 _ hw) kw_1179 kw_1176 kw_60 kw_1178 kw_30 ⟨by decide, by decide, by decide +kernel⟩ ⟨rfl, rfl, Nat.le_of_ble_eq_true rfl, Nat.le_of_ble_eq_true rfl⟩ rfl hl.1 rfl (Nat.le_of_ble_eq_true rfl) dX12_setFirst_18 ⟨Nat.zero_le _, Nat.zero_le _⟩) hS (fun _ h => h) (fun r_18 M_18 H locs hw hP hS _ _ => ?_)
    refine lv_if_ne (tgt := 32) hx hb dX12_setFirst_21 (by decide) (fun hc21 => ?_) (fun hc21 => ?_)
    · replace hw := hw.1 hc21
      exact J32 M_18 _ _ _ hw hP hS (lv_sub hl [0, 1, 2] rfl)
    · replace hw := hw.2 hc21
      refine lv_aload_n hx hb dX12_setFirst_24 rfl (lv_at hl 0 rfl) ?_
      refine lv_iload_n hx hb dX12_setFirst_25 rfl (lv_at hl 2 rfl) ?_
      refine rt_calli (rt_runV (n := 1) (As := [.int p2]) (rest := [.ref (ad 0)]) F hP hN hS (rt_frs hS.1) (rt_c12 _ rt_k0) (rt_l12 rt_k0) rfl (mtX12_isNoState l D cA ad hI _ p2 M_18 _ hw) kw_1179 kw_1176 kw_60 kw_1178 kw_30 ⟨by decide, by decide, by decide +kernel⟩ ⟨rfl, rfl, Nat.le_of_ble_eq_true rfl, Nat.le_of_ble_eq_true rfl⟩ rfl hl.1 rfl (Nat.le_of_ble_eq_true rfl) dX12_setFirst_26 ⟨Nat.zero_le _, Nat.zero_le _⟩) hS (fun _ h => h) (fun r_26 M_26 H locs hw hP hS _ _ => ?_)
      refine lv_if_eq (tgt := 36) hx hb dX12_setFirst_29 (by decide) (fun hc29 => ?_) (fun hc29 => ?_)
      · replace hw := hw.1 hc29
        refine lv_iconst (v := 0) hx hb dX12_setFirst_36 (by decide) ?_
        exact J37 0 M_26 _ _ _ hw hP hS (lv_sub hl [0, 1, 2] rfl)
      · replace hw := hw.2 hc29
        exact J32 M_26 _ _ _ hw hP hS (lv_sub hl [0, 1, 2] rfl)
