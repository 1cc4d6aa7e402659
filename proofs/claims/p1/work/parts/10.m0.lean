-- ===== J6_bitCount_0f7a4
def wpJ6_bitCount_0f7a4 (p1 : Int32) (M : pt_M) (Q : Int32 → pt_M → Prop) : Prop :=
  ∀ x0_9 : Int32, x0_9 = (p1 - ((((p1 : Int32).toUInt32 >>> ((1 : Int32).toUInt32 &&& Int32.toUInt32 31)).toInt32) &&& 1431655765)) → ∀ x0_23 : Int32, x0_23 = ((x0_9 &&& 858993459) + ((((x0_9 : Int32).toUInt32 >>> ((2 : Int32).toUInt32 &&& Int32.toUInt32 31)).toInt32) &&& 858993459)) → ∀ x0_33 : Int32, x0_33 = ((x0_23 + (((x0_23 : Int32).toUInt32 >>> ((4 : Int32).toUInt32 &&& Int32.toUInt32 31)).toInt32)) &&& 252645135) → ∀ x0_40 : Int32, x0_40 = (x0_33 + (((x0_33 : Int32).toUInt32 >>> ((8 : Int32).toUInt32 &&& Int32.toUInt32 31)).toInt32)) → ∀ x0_47 : Int32, x0_47 = (x0_40 + (((x0_40 : Int32).toUInt32 >>> ((16 : Int32).toUInt32 &&& Int32.toUInt32 31)).toInt32)) → Q (x0_47 &&& 63) M
set_option maxHeartbeats 4000000 in
set_option maxRecDepth 100000 in
theorem mtJ6_bitCount_0f7a4 (l : Launch) (D : va_G) (cA : Nat → ClassId) (ad : Nat → Nat) (hI : pt_I ad) (sz : Nat) (p1 : Int32) (M : pt_M) (Q : Int32 → pt_M → Prop) (hw : wpJ6_bitCount_0f7a4 p1 M Q) : Met l yJ6_bitCount_0f7a4 (Cond.code yJ6_bitCount_0f7a4 cJ6_bitCount_0f7a4 1 (some .int) :: lw_all) ({ frames := 0, cells := 0, slots := 0, locals := 0 } : Room) (va_Pc [.int p1] (pt_P D cA ad sz M)) (va_Qi Q (pt_B D cA ad) (pt_fr ad sz)) 0 0 (pt_fr ad sz) := by
  refine Met.ofW (cc := cJ6_bitCount_0f7a4) (maxL := 1) (ret := (some .int)) (by decide) rfl ?_
  intro p e s m args below meth c s₁ B hml hv
  obtain ⟨rfl, hsz, hP, hK⟩ := hv
  have hx := B.exec
  have hb := B.bytes
  have hr := B.returns
  have hts0 := atoms_spec (ws := (Cond.code yJ6_bitCount_0f7a4 cJ6_bitCount_0f7a4 1 (some .int) :: lw_all)) B.pre
  have hown : s.vm.findClass RJ6 = some m.cls := findClass_of_methodNamed B.named
  have hlocks := B.notSynchronized
  subst hsz
  have F : pt_F p m c cJ6_bitCount_0f7a4 1 s _ RJ6 D cA := ⟨⟨hx, hb, hml, hown, fun w h => hts0 w (List.mem_cons_of_mem _ h)⟩, hK⟩
  have hD : ∀ M, va_D (pt_fr ad s.heap.size) (pt_W cA ad M) := pt_D hI (fun k h => Or.inl ⟨k, h, rfl⟩)
  have hS : va_S (pt_fr ad s.heap.size) s.heap s.heap [] := va_S.rf
  have hl := lv_entry ([.int p1]) (n := 1) (Nat.le_of_ble_eq_true rfl)
  rw [lg_entry_eq]
  generalize (lg_sl ([.int p1]) ++ List.replicate (1 - (lg_sl ([.int p1])).length) Slot.unset).toArray = ls at hl ⊢
  have hl : lv_has ls 1 [(0, .int p1)] := hl
  unfold wpJ6_bitCount_0f7a4 at hw
  refine lv_iload_n hx hb dJ6_bitCount_0f7a4_0 rfl (lv_at hl 0 rfl) ?_
  refine lv_iload_n hx hb dJ6_bitCount_0f7a4_1 rfl (lv_at hl 0 rfl) ?_
  refine lv_iconst (v := 1) hx hb dJ6_bitCount_0f7a4_2 (by decide) ?_
  refine lv_iushr hx hb dJ6_bitCount_0f7a4_3 rfl ?_
  refine lv_ldcw (v := 1431655765) hx hb hown (F.1.2.2.2.2 _ kw_444) dJ6_bitCount_0f7a4_4 ?_
  refine lv_iand hx hb dJ6_bitCount_0f7a4_7 ?_
  refine lv_isub hx hb dJ6_bitCount_0f7a4_8 ?_
  refine lv_topi (fun x0_9 ex0_9 => ?_)
  replace hw := hw x0_9 ex0_9
  refine lv_istore_n (lv' := [(0, .int x0_9)]) hx hb dJ6_bitCount_0f7a4_9 rfl hl (by decide) rfl (fun ls hl => ?_)
  refine lv_iload_n hx hb dJ6_bitCount_0f7a4_10 rfl (lv_at hl 0 rfl) ?_
  refine lv_ldcw (v := 858993459) hx hb hown (F.1.2.2.2.2 _ kw_445) dJ6_bitCount_0f7a4_11 ?_
  refine lv_iand hx hb dJ6_bitCount_0f7a4_14 ?_
  refine lv_iload_n hx hb dJ6_bitCount_0f7a4_15 rfl (lv_at hl 0 rfl) ?_
  refine lv_iconst (v := 2) hx hb dJ6_bitCount_0f7a4_16 (by decide) ?_
  refine lv_iushr hx hb dJ6_bitCount_0f7a4_17 rfl ?_
  refine lv_ldcw (v := 858993459) hx hb hown (F.1.2.2.2.2 _ kw_445) dJ6_bitCount_0f7a4_18 ?_
  refine lv_iand hx hb dJ6_bitCount_0f7a4_21 ?_
  refine lv_iadd hx hb dJ6_bitCount_0f7a4_22 ?_
  refine lv_topi (fun x0_23 ex0_23 => ?_)
  replace hw := hw x0_23 ex0_23
  refine lv_istore_n (lv' := [(0, .int x0_23)]) hx hb dJ6_bitCount_0f7a4_23 rfl hl (by decide) rfl (fun ls hl => ?_)
  refine lv_iload_n hx hb dJ6_bitCount_0f7a4_24 rfl (lv_at hl 0 rfl) ?_
  refine lv_iload_n hx hb dJ6_bitCount_0f7a4_25 rfl (lv_at hl 0 rfl) ?_
  refine lv_iconst (v := 4) hx hb dJ6_bitCount_0f7a4_26 (by decide) ?_
  refine lv_iushr hx hb dJ6_bitCount_0f7a4_27 rfl ?_
  refine lv_iadd hx hb dJ6_bitCount_0f7a4_28 ?_
  refine lv_ldcw (v := 252645135) hx hb hown (F.1.2.2.2.2 _ kw_446) dJ6_bitCount_0f7a4_29 ?_
  refine lv_iand hx hb dJ6_bitCount_0f7a4_32 ?_
  refine lv_topi (fun x0_33 ex0_33 => ?_)
  replace hw := hw x0_33 ex0_33
  refine lv_istore_n (lv' := [(0, .int x0_33)]) hx hb dJ6_bitCount_0f7a4_33 rfl hl (by decide) rfl (fun ls hl => ?_)
  refine lv_iload_n hx hb dJ6_bitCount_0f7a4_34 rfl (lv_at hl 0 rfl) ?_
  refine lv_iload_n hx hb dJ6_bitCount_0f7a4_35 rfl (lv_at hl 0 rfl) ?_
  refine lv_bipush (v := 8) hx hb dJ6_bitCount_0f7a4_36 (by decide) ?_
  refine lv_iushr hx hb dJ6_bitCount_0f7a4_38 rfl ?_
  refine lv_iadd hx hb dJ6_bitCount_0f7a4_39 ?_
  refine lv_topi (fun x0_40 ex0_40 => ?_)
  replace hw := hw x0_40 ex0_40
  refine lv_istore_n (lv' := [(0, .int x0_40)]) hx hb dJ6_bitCount_0f7a4_40 rfl hl (by decide) rfl (fun ls hl => ?_)
  refine lv_iload_n hx hb dJ6_bitCount_0f7a4_41 rfl (lv_at hl 0 rfl) ?_
  refine lv_iload_n hx hb dJ6_bitCount_0f7a4_42 rfl (lv_at hl 0 rfl) ?_
  refine lv_bipush (v := 16) hx hb dJ6_bitCount_0f7a4_43 (by decide) ?_
  refine lv_iushr hx hb dJ6_bitCount_0f7a4_45 rfl ?_
  refine lv_iadd hx hb dJ6_bitCount_0f7a4_46 ?_
  refine lv_topi (fun x0_47 ex0_47 => ?_)
  replace hw := hw x0_47 ex0_47
  refine lv_istore_n (lv' := [(0, .int x0_47)]) hx hb dJ6_bitCount_0f7a4_47 rfl hl (by decide) rfl (fun ls hl => ?_)
  refine lv_iload_n hx hb dJ6_bitCount_0f7a4_48 rfl (lv_at hl 0 rfl) ?_
  refine lv_bipush (v := 63) hx hb dJ6_bitCount_0f7a4_49 (by decide) ?_
  refine lv_iand hx hb dJ6_bitCount_0f7a4_51 ?_
  exact W.iret (v := (x0_47 &&& 63)) hx hb hr (fun t ht hW => ⟨⟨(x0_47 &&& 63), M, rfl, hw, by unfold pt_B; rw [ht]; exact hP⟩, hS.F ht⟩) hS.2.2 dJ6_bitCount_0f7a4_52
-- ===== X7_has
def wjX7_has_13 (p1 : Int32) (p2 : Int32) (Q : Int32 → pt_M → Prop)  (xs0 : Int32) (M : pt_M) : Prop :=
  pt_zb xs0 ∧ Q xs0 M
def wpX7_has (p1 : Int32) (p2 : Int32) (M : pt_M) (Q : Int32 → pt_M → Prop) : Prop :=
  (((p1 >>> (p2 &&& 31)) &&& 1) = 0 → wjX7_has_13 p1 p2 Q 0 M) ∧ (¬ ((p1 >>> (p2 &&& 31)) &&& 1) = 0 → wjX7_has_13 p1 p2 Q 1 M)
set_option maxHeartbeats 4000000 in
set_option maxRecDepth 100000 in
theorem mtX7_has (l : Launch) (D : va_G) (cA : Nat → ClassId) (ad : Nat → Nat) (hI : pt_I ad) (sz : Nat) (p1 : Int32) (p2 : Int32) (M : pt_M) (Q : Int32 → pt_M → Prop) (hw : wpX7_has p1 p2 M Q) : Met l yX7_has (Cond.code yX7_has cX7_has 2 (some .boolean) :: lw_all) ({ frames := 0, cells := 0, slots := 0, locals := 0 } : Room) (va_Pc [.int p1, .int p2] (pt_P D cA ad sz M)) (va_Qi Q (pt_B D cA ad) (pt_fr ad sz)) 0 0 (pt_fr ad sz) := by
  refine Met.ofW (cc := cX7_has) (maxL := 2) (ret := (some .boolean)) (by decide) rfl ?_
  intro p e s m args below meth c s₁ B hml hv
  obtain ⟨rfl, hsz, hP, hK⟩ := hv
  have hx := B.exec
  have hb := B.bytes
  have hr := B.returns
  have hts0 := atoms_spec (ws := (Cond.code yX7_has cX7_has 2 (some .boolean) :: lw_all)) B.pre
  have hown : s.vm.findClass RX7 = some m.cls := findClass_of_methodNamed B.named
  have hlocks := B.notSynchronized
  subst hsz
  have F : pt_F p m c cX7_has 2 s _ RX7 D cA := ⟨⟨hx, hb, hml, hown, fun w h => hts0 w (List.mem_cons_of_mem _ h)⟩, hK⟩
  have hD : ∀ M, va_D (pt_fr ad s.heap.size) (pt_W cA ad M) := pt_D hI (fun k h => Or.inl ⟨k, h, rfl⟩)
  have hS : va_S (pt_fr ad s.heap.size) s.heap s.heap [] := va_S.rf
  have hl := lv_entry ([.int p1, .int p2]) (n := 2) (Nat.le_of_ble_eq_true rfl)
  rw [lg_entry_eq]
  generalize (lg_sl ([.int p1, .int p2]) ++ List.replicate (2 - (lg_sl ([.int p1, .int p2])).length) Slot.unset).toArray = ls at hl ⊢
  have hl : lv_has ls 2 [(0, .int p1), (1, .int p2)] := hl
  have J13 : ∀ (xs0 : Int32) (M : pt_M) (H : Heap) (locs : List Loc) (ls : Array Slot), wjX7_has_13 p1 p2 Q xs0 M → va_P D pt_cl (pt_W cA ad M) H → va_S (pt_fr ad s.heap.size) s.heap H locs → lv_has ls 2 [] → W p l e (headSpec (Cond.code yX7_has cX7_has 2 (some .boolean) :: lw_all) ({ frames := 0, cells := 0, slots := 0, locals := 0 } : Room)).room s m ([.int p1, .int p2] : List Value).toArray below meth c H locs 0 0 (MQ below (va_Qi Q (pt_B D cA ad) (pt_fr ad s.heap.size)) ([.int p1, .int p2] : List Value).toArray s 0 0 (pt_fr ad s.heap.size)) (F0 m 13 ls [.int xs0]) := by
    intro xs0 M H locs ls hw hP hS hl
    unfold wjX7_has_13 at hw
    exact W.zret (v := xs0) (ty := .boolean) hx hb hr (pt_zb_n hw.1) (fun t ht hW => ⟨⟨xs0, M, rfl, hw.2, by unfold pt_B; rw [ht]; exact hP⟩, hS.F ht⟩) hS.2.2 dX7_has_13
  unfold wpX7_has at hw
  refine lv_iload_n hx hb dX7_has_0 rfl (lv_at hl 0 rfl) ?_
  refine lv_iload_n hx hb dX7_has_1 rfl (lv_at hl 1 rfl) ?_
  refine lv_ishr hx hb dX7_has_2 ?_
  refine lv_iconst (v := 1) hx hb dX7_has_3 (by decide) ?_
  refine lv_iand hx hb dX7_has_4 ?_
  refine lv_if_eq (tgt := 12) hx hb dX7_has_5 (by decide) (fun hc5 => ?_) (fun hc5 => ?_)
  · replace hw := hw.1 hc5
    refine lv_iconst (v := 0) hx hb dX7_has_12 (by decide) ?_
    exact J13 0 M _ _ _ hw hP hS (lv_sub hl [] rfl)
  · replace hw := hw.2 hc5
    refine lv_iconst (v := 1) hx hb dX7_has_8 (by decide) ?_
    refine lv_goto (tgt := 13) hx hb dX7_has_9 (by decide) ?_
    exact J13 1 M _ _ _ hw hP hS (lv_sub hl [] rfl)
-- ===== X7_setOf
def wpX7_setOf (p1 : Int32) (M : pt_M) (Q : Int32 → pt_M → Prop) : Prop :=
  Q (1 <<< (p1 &&& 31)) M
set_option maxHeartbeats 4000000 in
set_option maxRecDepth 100000 in
theorem mtX7_setOf (l : Launch) (D : va_G) (cA : Nat → ClassId) (ad : Nat → Nat) (hI : pt_I ad) (sz : Nat) (p1 : Int32) (M : pt_M) (Q : Int32 → pt_M → Prop) (hw : wpX7_setOf p1 M Q) : Met l yX7_setOf (Cond.code yX7_setOf cX7_setOf 1 (some .int) :: lw_all) ({ frames := 0, cells := 0, slots := 0, locals := 0 } : Room) (va_Pc [.int p1] (pt_P D cA ad sz M)) (va_Qi Q (pt_B D cA ad) (pt_fr ad sz)) 0 0 (pt_fr ad sz) := by
  refine Met.ofW (cc := cX7_setOf) (maxL := 1) (ret := (some .int)) (by decide) rfl ?_
  intro p e s m args below meth c s₁ B hml hv
  obtain ⟨rfl, hsz, hP, hK⟩ := hv
  have hx := B.exec
  have hb := B.bytes
  have hr := B.returns
  have hts0 := atoms_spec (ws := (Cond.code yX7_setOf cX7_setOf 1 (some .int) :: lw_all)) B.pre
  have hown : s.vm.findClass RX7 = some m.cls := findClass_of_methodNamed B.named
  have hlocks := B.notSynchronized
  subst hsz
  have F : pt_F p m c cX7_setOf 1 s _ RX7 D cA := ⟨⟨hx, hb, hml, hown, fun w h => hts0 w (List.mem_cons_of_mem _ h)⟩, hK⟩
  have hD : ∀ M, va_D (pt_fr ad s.heap.size) (pt_W cA ad M) := pt_D hI (fun k h => Or.inl ⟨k, h, rfl⟩)
  have hS : va_S (pt_fr ad s.heap.size) s.heap s.heap [] := va_S.rf
  have hl := lv_entry ([.int p1]) (n := 1) (Nat.le_of_ble_eq_true rfl)
  rw [lg_entry_eq]
  generalize (lg_sl ([.int p1]) ++ List.replicate (1 - (lg_sl ([.int p1])).length) Slot.unset).toArray = ls at hl ⊢
  have hl : lv_has ls 1 [(0, .int p1)] := hl
  unfold wpX7_setOf at hw
  refine lv_iconst (v := 1) hx hb dX7_setOf_0 (by decide) ?_
  refine lv_iload_n hx hb dX7_setOf_1 rfl (lv_at hl 0 rfl) ?_
  refine lv_ishl hx hb dX7_setOf_2 ?_
  exact W.iret (v := (1 <<< (p1 &&& 31))) hx hb hr (fun t ht hW => ⟨⟨(1 <<< (p1 &&& 31)), M, rfl, hw, by unfold pt_B; rw [ht]; exact hP⟩, hS.F ht⟩) hS.2.2 dX7_setOf_3
-- ===== X7_isWithin
def wjX7_isWithin_15 (p1 : Int32) (p2 : Int32) (p3 : Int32) (Q : Int32 → pt_M → Prop)  (xs0 : Int32) (M : pt_M) : Prop :=
  pt_zb xs0 ∧ Q xs0 M
def wjX7_isWithin_14 (p1 : Int32) (p2 : Int32) (p3 : Int32) (Q : Int32 → pt_M → Prop)   (M : pt_M) : Prop :=
  wjX7_isWithin_15 p1 p2 p3 Q 0 M
def wpX7_isWithin (p1 : Int32) (p2 : Int32) (p3 : Int32) (M : pt_M) (Q : Int32 → pt_M → Prop) : Prop :=
  (p1 < p2 → wjX7_isWithin_14 p1 p2 p3 Q M) ∧ (¬ p1 < p2 → (p3 < p1 → wjX7_isWithin_14 p1 p2 p3 Q M) ∧ (¬ p3 < p1 → wjX7_isWithin_15 p1 p2 p3 Q 1 M))
set_option maxHeartbeats 4000000 in
set_option maxRecDepth 100000 in
theorem mtX7_isWithin (l : Launch) (D : va_G) (cA : Nat → ClassId) (ad : Nat → Nat) (hI : pt_I ad) (sz : Nat) (p1 : Int32) (p2 : Int32) (p3 : Int32) (M : pt_M) (Q : Int32 → pt_M → Prop) (hw : wpX7_isWithin p1 p2 p3 M Q) : Met l yX7_isWithin (Cond.code yX7_isWithin cX7_isWithin 3 (some .boolean) :: lw_all) ({ frames := 0, cells := 0, slots := 0, locals := 0 } : Room) (va_Pc [.int p1, .int p2, .int p3] (pt_P D cA ad sz M)) (va_Qi Q (pt_B D cA ad) (pt_fr ad sz)) 0 0 (pt_fr ad sz) := by
  refine Met.ofW (cc := cX7_isWithin) (maxL := 3) (ret := (some .boolean)) (by decide) rfl ?_
  intro p e s m args below meth c s₁ B hml hv
  obtain ⟨rfl, hsz, hP, hK⟩ := hv
  have hx := B.exec
  have hb := B.bytes
  have hr := B.returns
  have hts0 := atoms_spec (ws := (Cond.code yX7_isWithin cX7_isWithin 3 (some .boolean) :: lw_all)) B.pre
  have hown : s.vm.findClass RX7 = some m.cls := findClass_of_methodNamed B.named
  have hlocks := B.notSynchronized
  subst hsz
  have F : pt_F p m c cX7_isWithin 3 s _ RX7 D cA := ⟨⟨hx, hb, hml, hown, fun w h => hts0 w (List.mem_cons_of_mem _ h)⟩, hK⟩
  have hD : ∀ M, va_D (pt_fr ad s.heap.size) (pt_W cA ad M) := pt_D hI (fun k h => Or.inl ⟨k, h, rfl⟩)
  have hS : va_S (pt_fr ad s.heap.size) s.heap s.heap [] := va_S.rf
  have hl := lv_entry ([.int p1, .int p2, .int p3]) (n := 3) (Nat.le_of_ble_eq_true rfl)
  rw [lg_entry_eq]
  generalize (lg_sl ([.int p1, .int p2, .int p3]) ++ List.replicate (3 - (lg_sl ([.int p1, .int p2, .int p3])).length) Slot.unset).toArray = ls at hl ⊢
  have hl : lv_has ls 3 [(0, .int p1), (1, .int p2), (2, .int p3)] := hl
  have J15 : ∀ (xs0 : Int32) (M : pt_M) (H : Heap) (locs : List Loc) (ls : Array Slot), wjX7_isWithin_15 p1 p2 p3 Q xs0 M → va_P D pt_cl (pt_W cA ad M) H → va_S (pt_fr ad s.heap.size) s.heap H locs → lv_has ls 3 [] → W p l e (headSpec (Cond.code yX7_isWithin cX7_isWithin 3 (some .boolean) :: lw_all) ({ frames := 0, cells := 0, slots := 0, locals := 0 } : Room)).room s m ([.int p1, .int p2, .int p3] : List Value).toArray below meth c H locs 0 0 (MQ below (va_Qi Q (pt_B D cA ad) (pt_fr ad s.heap.size)) ([.int p1, .int p2, .int p3] : List Value).toArray s 0 0 (pt_fr ad s.heap.size)) (F0 m 15 ls [.int xs0]) := by
    intro xs0 M H locs ls hw hP hS hl
    unfold wjX7_isWithin_15 at hw
    exact W.zret (v := xs0) (ty := .boolean) hx hb hr (pt_zb_n hw.1) (fun t ht hW => ⟨⟨xs0, M, rfl, hw.2, by unfold pt_B; rw [ht]; exact hP⟩, hS.F ht⟩) hS.2.2 dX7_isWithin_15
  have J14 : ∀ (M : pt_M) (H : Heap) (locs : List Loc) (ls : Array Slot), wjX7_isWithin_14 p1 p2 p3 Q M → va_P D pt_cl (pt_W cA ad M) H → va_S (pt_fr ad s.heap.size) s.heap H locs → lv_has ls 3 [] → W p l e (headSpec (Cond.code yX7_isWithin cX7_isWithin 3 (some .boolean) :: lw_all) ({ frames := 0, cells := 0, slots := 0, locals := 0 } : Room)).room s m ([.int p1, .int p2, .int p3] : List Value).toArray below meth c H locs 0 0 (MQ below (va_Qi Q (pt_B D cA ad) (pt_fr ad s.heap.size)) ([.int p1, .int p2, .int p3] : List Value).toArray s 0 0 (pt_fr ad s.heap.size)) (F0 m 14 ls []) := by
    intro M H locs ls hw hP hS hl
    unfold wjX7_isWithin_14 at hw
    refine lv_iconst (v := 0) hx hb dX7_isWithin_14 (by decide) ?_
    exact J15 0 M _ _ _ hw hP hS (lv_sub hl [] rfl)
  unfold wpX7_isWithin at hw
  refine lv_iload_n hx hb dX7_isWithin_0 rfl (lv_at hl 0 rfl) ?_
  refine lv_iload_n hx hb dX7_isWithin_1 rfl (lv_at hl 1 rfl) ?_
  refine lv_icmp_lt (tgt := 14) hx hb dX7_isWithin_2 (by decide) (fun hc2 => ?_) (fun hc2 => ?_)
  · replace hw := hw.1 hc2
    exact J14 M _ _ _ hw hP hS (lv_sub hl [] rfl)
  · replace hw := hw.2 hc2
    refine lv_iload_n hx hb dX7_isWithin_5 rfl (lv_at hl 0 rfl) ?_
    refine lv_iload_n hx hb dX7_isWithin_6 rfl (lv_at hl 2 rfl) ?_
    refine lv_icmp_gt (tgt := 14) hx hb dX7_isWithin_7 (by decide) (fun hc7 => ?_) (fun hc7 => ?_)
    · replace hw := hw.1 hc7
      exact J14 M _ _ _ hw hP hS (lv_sub hl [] rfl)
    · replace hw := hw.2 hc7
      refine lv_iconst (v := 1) hx hb dX7_isWithin_10 (by decide) ?_
      refine lv_goto (tgt := 15) hx hb dX7_isWithin_11 (by decide) ?_
      exact J15 1 M _ _ _ hw hP hS (lv_sub hl [] rfl)
-- ===== X7_isNumber
def wpX7_isNumber (p1 : Int32) (M : pt_M) (Q : Int32 → pt_M → Prop) : Prop :=
  wpX7_isWithin p1 (-99) 99 M (fun (r_5 : Int32) (M_5 : pt_M) => pt_zb r_5 ∧ Q r_5 M_5)
set_option maxHeartbeats 4000000 in
set_option maxRecDepth 100000 in
theorem mtX7_isNumber (l : Launch) (D : va_G) (cA : Nat → ClassId) (ad : Nat → Nat) (hI : pt_I ad) (sz : Nat) (p1 : Int32) (M : pt_M) (Q : Int32 → pt_M → Prop) (hw : wpX7_isNumber p1 M Q) : Met l yX7_isNumber (Cond.code yX7_isNumber cX7_isNumber 1 (some .boolean) :: lw_all) ({ frames := 1, cells := 0, slots := 0, locals := 22 } : Room) (va_Pc [.int p1] (pt_P D cA ad sz M)) (va_Qi Q (pt_B D cA ad) (pt_fr ad sz)) 0 0 (pt_fr ad sz) := by
  refine Met.ofW (cc := cX7_isNumber) (maxL := 1) (ret := (some .boolean)) (by decide) rfl ?_
  intro p e s m args below meth c s₁ B hml hv
  obtain ⟨rfl, hsz, hP, hK⟩ := hv
  have hx := B.exec
  have hb := B.bytes
  have hr := B.returns
  have hts0 := atoms_spec (ws := (Cond.code yX7_isNumber cX7_isNumber 1 (some .boolean) :: lw_all)) B.pre
  have hown : s.vm.findClass RX7 = some m.cls := findClass_of_methodNamed B.named
  have hlocks := B.notSynchronized
  subst hsz
  have F : pt_F p m c cX7_isNumber 1 s _ RX7 D cA := ⟨⟨hx, hb, hml, hown, fun w h => hts0 w (List.mem_cons_of_mem _ h)⟩, hK⟩
  have hD : ∀ M, va_D (pt_fr ad s.heap.size) (pt_W cA ad M) := pt_D hI (fun k h => Or.inl ⟨k, h, rfl⟩)
  have hS : va_S (pt_fr ad s.heap.size) s.heap s.heap [] := va_S.rf
  have hl := lv_entry ([.int p1]) (n := 1) (Nat.le_of_ble_eq_true rfl)
  rw [lg_entry_eq]
  generalize (lg_sl ([.int p1]) ++ List.replicate (1 - (lg_sl ([.int p1])).length) Slot.unset).toArray = ls at hl ⊢
  have hl : lv_has ls 1 [(0, .int p1)] := hl
  unfold wpX7_isNumber at hw
  refine lv_iload_n hx hb dX7_isNumber_0 rfl (lv_at hl 0 rfl) ?_
  refine lv_bipush (v := (-99)) hx hb dX7_isNumber_1 (by decide) ?_
  refine lv_bipush (v := 99) hx hb dX7_isNumber_3 (by decide) ?_
  refine pt_calli (pt_runS (n := 3) (As := [.int p1, .int (-99), .int 99]) (rest := []) F hP (mtX7_isWithin l D cA ad hI _ p1 (-99) 99 M _ hw) kw_432 kw_430 kw_52 kw_431 ⟨by decide, by decide, by decide +kernel⟩ ⟨rfl, rfl, Nat.le_of_ble_eq_true rfl, Nat.le_of_ble_eq_true rfl⟩ rfl hl.1 rfl (Nat.le_of_ble_eq_true rfl) dX7_isNumber_5 ⟨Nat.zero_le _, Nat.zero_le _⟩) hS (fun _ h => h) (fun r_5 M_5 H locs hw hP hS _ _ => ?_)
  exact W.zret (v := r_5) (ty := .boolean) hx hb hr (pt_zb_n hw.1) (fun t ht hW => ⟨⟨r_5, M_5, rfl, hw.2, by unfold pt_B; rw [ht]; exact hP⟩, hS.F ht⟩) hS.2.2 dX7_isNumber_8
-- ===== X0_become
def wpX0_become (k0 : Nat) (p1 : Int32) (p2 : Int32) (p3 : Int32) (M : pt_M) (Q : Int32 → pt_M → Prop) : Prop :=
  ∀ x4_4 : Int32, x4_4 = (M k0 0) → ∀ M_8 : pt_M, M_8 = pt_st M k0 0 p1 → ∀ M_13 : pt_M, M_13 = pt_st M_8 k0 1 p2 → ∀ M_18 : pt_M, M_18 = pt_st M_13 k0 2 p3 → Q x4_4 M_18
set_option maxHeartbeats 4000000 in
set_option maxRecDepth 100000 in
theorem mtX0_become (l : Launch) (D : va_G) (cA : Nat → ClassId) (ad : Nat → Nat) (hI : pt_I ad) (sz : Nat) (k0 : Nat) (hk0 : pt_kd k0 = 0) (p1 : Int32) (p2 : Int32) (p3 : Int32) (M : pt_M) (Q : Int32 → pt_M → Prop) (hw : wpX0_become k0 p1 p2 p3 M Q) : Met l yX0_become (Cond.code yX0_become cX0_become 5 (some .int) :: lw_all) ({ frames := 0, cells := 0, slots := 0, locals := 0 } : Room) (va_Pc [.ref (ad k0), .int p1, .int p2, .int p3] (pt_P D cA ad sz M)) (va_Qi Q (pt_B D cA ad) (pt_fr ad sz)) 0 0 (pt_fr ad sz) := by
  refine Met.ofW (cc := cX0_become) (maxL := 5) (ret := (some .int)) (by decide) rfl ?_
  intro p e s m args below meth c s₁ B hml hv
  obtain ⟨rfl, hsz, hP, hK⟩ := hv
  have hx := B.exec
  have hb := B.bytes
  have hr := B.returns
  have hts0 := atoms_spec (ws := (Cond.code yX0_become cX0_become 5 (some .int) :: lw_all)) B.pre
  have hown : s.vm.findClass RX0 = some m.cls := findClass_of_methodNamed B.named
  have hlocks := B.notSynchronized
  subst hsz
  have F : pt_F p m c cX0_become 5 s _ RX0 D cA := ⟨⟨hx, hb, hml, hown, fun w h => hts0 w (List.mem_cons_of_mem _ h)⟩, hK⟩
  have hD : ∀ M, va_D (pt_fr ad s.heap.size) (pt_W cA ad M) := pt_D hI (fun k h => Or.inl ⟨k, h, rfl⟩)
  have hS : va_S (pt_fr ad s.heap.size) s.heap s.heap [] := va_S.rf
  have hl := lv_entry ([.ref (ad k0), .int p1, .int p2, .int p3]) (n := 5) (Nat.le_of_ble_eq_true rfl)
  rw [lg_entry_eq]
  generalize (lg_sl ([.ref (ad k0), .int p1, .int p2, .int p3]) ++ List.replicate (5 - (lg_sl ([.ref (ad k0), .int p1, .int p2, .int p3])).length) Slot.unset).toArray = ls at hl ⊢
  have hl : lv_has ls 5 [(0, .ref (ad k0)), (1, .int p1), (2, .int p2), (3, .int p3)] := hl
  unfold wpX0_become at hw
  refine lv_aload_n hx hb dX0_become_0 rfl (lv_at hl 0 rfl) ?_
  refine pt_get F hP (pt_c0 _ hk0) (pt_l0 hk0) inX0 rfl 0 (by decide) kw_115 rfl rfl dX0_become_1 ?_
  refine lv_topi (fun x4_4 ex4_4 => ?_)
  replace hw := hw x4_4 ex4_4
  refine lv_istore (lv' := [(4, .int x4_4), (0, .ref (ad k0)), (1, .int p1), (2, .int p2), (3, .int p3)]) hx hb dX0_become_4 hl (by decide) rfl (fun ls hl => ?_)
  refine lv_aload_n hx hb dX0_become_6 rfl (lv_at hl 1 rfl) ?_
  refine lv_iload_n hx hb dX0_become_7 rfl (lv_at hl 2 rfl) ?_
  refine pt_put F hP hD hS (pt_c0 _ hk0) (pt_l0 hk0) inX0 tyX0 tyX0_ok nmX0 rfl 0 (by decide) kw_115 rfl rfl rfl rfl (Nat.le_of_ble_eq_true rfl) (pt_c0 _ hk0) dX0_become_8 (fun M_8 H locs eM_8 hP hS => ?_)
  replace hw := hw M_8 eM_8
  refine lv_aload_n hx hb dX0_become_11 rfl (lv_at hl 1 rfl) ?_
  refine lv_iload_n hx hb dX0_become_12 rfl (lv_at hl 3 rfl) ?_
  refine pt_put F hP hD hS (pt_c0 _ hk0) (pt_l0 hk0) inX0 tyX0 tyX0_ok nmX0 rfl 1 (by decide) kw_117 rfl rfl rfl rfl (Nat.le_of_ble_eq_true rfl) (pt_c0 _ hk0) dX0_become_13 (fun M_13 H locs eM_13 hP hS => ?_)
  replace hw := hw M_13 eM_13
  refine lv_aload_n hx hb dX0_become_16 rfl (lv_at hl 1 rfl) ?_
  refine lv_iload_n hx hb dX0_become_17 rfl (lv_at hl 4 rfl) ?_
  refine pt_put F hP hD hS (pt_c0 _ hk0) (pt_l0 hk0) inX0 tyX0 tyX0_ok nmX0 rfl 2 (by decide) kw_119 rfl rfl rfl rfl (Nat.le_of_ble_eq_true rfl) (pt_c0 _ hk0) dX0_become_18 (fun M_18 H locs eM_18 hP hS => ?_)
  replace hw := hw M_18 eM_18
  refine lv_iload hx hb dX0_become_21 (lv_at hl 0 rfl) ?_
  exact W.iret (v := x4_4) hx hb hr (fun t ht hW => ⟨⟨x4_4, M_18, rfl, hw, by unfold pt_B; rw [ht]; exact hP⟩, hS.F ht⟩) hS.2.2 dX0_become_23
-- ===== X5_isMark
def wjX5_isMark_21 (k0 : Nat) (Q : Int32 → pt_M → Prop)  (xs0 : Int32) (M : pt_M) : Prop :=
  pt_zb xs0 ∧ Q xs0 M
def wjX5_isMark_16 (k0 : Nat) (Q : Int32 → pt_M → Prop)   (M : pt_M) : Prop :=
  wjX5_isMark_21 k0 Q 1 M
def wpX5_isMark (k0 : Nat) (M : pt_M) (Q : Int32 → pt_M → Prop) : Prop :=
  ((M k0 2) = 3 → wjX5_isMark_16 k0 Q M) ∧ (¬ (M k0 2) = 3 → (¬ (M k0 2) = 4 → wjX5_isMark_21 k0 Q 0 M) ∧ ((M k0 2) = 4 → wjX5_isMark_16 k0 Q M))
set_option maxHeartbeats 4000000 in
set_option maxRecDepth 100000 in
theorem mtX5_isMark (l : Launch) (D : va_G) (cA : Nat → ClassId) (ad : Nat → Nat) (hI : pt_I ad) (sz : Nat) (k0 : Nat) (hk0 : pt_kd k0 = 5) (M : pt_M) (Q : Int32 → pt_M → Prop) (hw : wpX5_isMark k0 M Q) : Met l yX5_isMark (Cond.code yX5_isMark cX5_isMark 1 (some .boolean) :: lw_all) ({ frames := 0, cells := 0, slots := 0, locals := 0 } : Room) (va_Pc [.ref (ad k0)] (pt_P D cA ad sz M)) (va_Qi Q (pt_B D cA ad) (pt_fr ad sz)) 0 0 (pt_fr ad sz) := by
  refine Met.ofW (cc := cX5_isMark) (maxL := 1) (ret := (some .boolean)) (by decide) rfl ?_
  intro p e s m args below meth c s₁ B hml hv
  obtain ⟨rfl, hsz, hP, hK⟩ := hv
  have hx := B.exec
  have hb := B.bytes
  have hr := B.returns
  have hts0 := atoms_spec (ws := (Cond.code yX5_isMark cX5_isMark 1 (some .boolean) :: lw_all)) B.pre
  have hown : s.vm.findClass RX5 = some m.cls := findClass_of_methodNamed B.named
  have hlocks := B.notSynchronized
  subst hsz
  have F : pt_F p m c cX5_isMark 1 s _ RX5 D cA := ⟨⟨hx, hb, hml, hown, fun w h => hts0 w (List.mem_cons_of_mem _ h)⟩, hK⟩
  have hD : ∀ M, va_D (pt_fr ad s.heap.size) (pt_W cA ad M) := pt_D hI (fun k h => Or.inl ⟨k, h, rfl⟩)
  have hS : va_S (pt_fr ad s.heap.size) s.heap s.heap [] := va_S.rf
  have hl := lv_entry ([.ref (ad k0)]) (n := 1) (Nat.le_of_ble_eq_true rfl)
  rw [lg_entry_eq]
  generalize (lg_sl ([.ref (ad k0)]) ++ List.replicate (1 - (lg_sl ([.ref (ad k0)])).length) Slot.unset).toArray = ls at hl ⊢
  have hl : lv_has ls 1 [(0, .ref (ad k0))] := hl
  have J21 : ∀ (xs0 : Int32) (M : pt_M) (H : Heap) (locs : List Loc) (ls : Array Slot), wjX5_isMark_21 k0 Q xs0 M → va_P D pt_cl (pt_W cA ad M) H → va_S (pt_fr ad s.heap.size) s.heap H locs → lv_has ls 1 [] → W p l e (headSpec (Cond.code yX5_isMark cX5_isMark 1 (some .boolean) :: lw_all) ({ frames := 0, cells := 0, slots := 0, locals := 0 } : Room)).room s m ([.ref (ad k0)] : List Value).toArray below meth c H locs 0 0 (MQ below (va_Qi Q (pt_B D cA ad) (pt_fr ad s.heap.size)) ([.ref (ad k0)] : List Value).toArray s 0 0 (pt_fr ad s.heap.size)) (F0 m 21 ls [.int xs0]) := by
    intro xs0 M H locs ls hw hP hS hl
    unfold wjX5_isMark_21 at hw
    exact W.zret (v := xs0) (ty := .boolean) hx hb hr (pt_zb_n hw.1) (fun t ht hW => ⟨⟨xs0, M, rfl, hw.2, by unfold pt_B; rw [ht]; exact hP⟩, hS.F ht⟩) hS.2.2 dX5_isMark_21
  have J16 : ∀ (M : pt_M) (H : Heap) (locs : List Loc) (ls : Array Slot), wjX5_isMark_16 k0 Q M → va_P D pt_cl (pt_W cA ad M) H → va_S (pt_fr ad s.heap.size) s.heap H locs → lv_has ls 1 [] → W p l e (headSpec (Cond.code yX5_isMark cX5_isMark 1 (some .boolean) :: lw_all) ({ frames := 0, cells := 0, slots := 0, locals := 0 } : Room)).room s m ([.ref (ad k0)] : List Value).toArray below meth c H locs 0 0 (MQ below (va_Qi Q (pt_B D cA ad) (pt_fr ad s.heap.size)) ([.ref (ad k0)] : List Value).toArray s 0 0 (pt_fr ad s.heap.size)) (F0 m 16 ls []) := by
    intro M H locs ls hw hP hS hl
    unfold wjX5_isMark_16 at hw
    refine lv_iconst (v := 1) hx hb dX5_isMark_16 (by decide) ?_
    refine lv_goto (tgt := 21) hx hb dX5_isMark_17 (by decide) ?_
    exact J21 1 M _ _ _ hw hP hS (lv_sub hl [] rfl)
  unfold wpX5_isMark at hw
  refine lv_aload_n hx hb dX5_isMark_0 rfl (lv_at hl 0 rfl) ?_
  refine pt_get F hP (pt_c5 _ hk0) (pt_l5 hk0) inX5 rfl 2 (by decide) kw_135 rfl rfl dX5_isMark_1 ?_
  refine lv_iconst (v := 3) hx hb dX5_isMark_4 (by decide) ?_
  refine lv_icmp_eq (tgt := 16) hx hb dX5_isMark_5 (by decide) (fun hc5 => ?_) (fun hc5 => ?_)
  · replace hw := hw.1 hc5
    exact J16 M _ _ _ hw hP hS (lv_sub hl [] rfl)
  · replace hw := hw.2 hc5
    refine lv_aload_n hx hb dX5_isMark_8 rfl (lv_at hl 0 rfl) ?_
    refine pt_get F hP (pt_c5 _ hk0) (pt_l5 hk0) inX5 rfl 2 (by decide) kw_135 rfl rfl dX5_isMark_9 ?_
    refine lv_iconst (v := 4) hx hb dX5_isMark_12 (by decide) ?_
    refine lv_icmp_ne (tgt := 20) hx hb dX5_isMark_13 (by decide) (fun hc13 => ?_) (fun hc13 => ?_)
    · replace hw := hw.1 hc13
      refine lv_iconst (v := 0) hx hb dX5_isMark_20 (by decide) ?_
      exact J21 0 M _ _ _ hw hP hS (lv_sub hl [] rfl)
    · replace hw := hw.2 hc13
      exact J16 M _ _ _ hw hP hS (lv_sub hl [] rfl)
-- ===== X5_isHolder
def wjX5_isHolder_20 (k0 : Nat) (Q : Int32 → pt_M → Prop)  (xs0 : Int32) (M : pt_M) : Prop :=
  pt_zb xs0 ∧ Q xs0 M
def wjX5_isHolder_15 (k0 : Nat) (Q : Int32 → pt_M → Prop)   (M : pt_M) : Prop :=
  wjX5_isHolder_20 k0 Q 1 M
def wpX5_isHolder (k0 : Nat) (M : pt_M) (Q : Int32 → pt_M → Prop) : Prop :=
  ((M k0 2) = 0 → wjX5_isHolder_15 k0 Q M) ∧ (¬ (M k0 2) = 0 → (¬ (M k0 2) = 1 → wjX5_isHolder_20 k0 Q 0 M) ∧ ((M k0 2) = 1 → wjX5_isHolder_15 k0 Q M))
set_option maxHeartbeats 4000000 in
set_option maxRecDepth 100000 in
theorem mtX5_isHolder (l : Launch) (D : va_G) (cA : Nat → ClassId) (ad : Nat → Nat) (hI : pt_I ad) (sz : Nat) (k0 : Nat) (hk0 : pt_kd k0 = 5) (M : pt_M) (Q : Int32 → pt_M → Prop) (hw : wpX5_isHolder k0 M Q) : Met l yX5_isHolder (Cond.code yX5_isHolder cX5_isHolder 1 (some .boolean) :: lw_all) ({ frames := 0, cells := 0, slots := 0, locals := 0 } : Room) (va_Pc [.ref (ad k0)] (pt_P D cA ad sz M)) (va_Qi Q (pt_B D cA ad) (pt_fr ad sz)) 0 0 (pt_fr ad sz) := by
  refine Met.ofW (cc := cX5_isHolder) (maxL := 1) (ret := (some .boolean)) (by decide) rfl ?_
  intro p e s m args below meth c s₁ B hml hv
  obtain ⟨rfl, hsz, hP, hK⟩ := hv
  have hx := B.exec
  have hb := B.bytes
  have hr := B.returns
  have hts0 := atoms_spec (ws := (Cond.code yX5_isHolder cX5_isHolder 1 (some .boolean) :: lw_all)) B.pre
  have hown : s.vm.findClass RX5 = some m.cls := findClass_of_methodNamed B.named
  have hlocks := B.notSynchronized
  subst hsz
  have F : pt_F p m c cX5_isHolder 1 s _ RX5 D cA := ⟨⟨hx, hb, hml, hown, fun w h => hts0 w (List.mem_cons_of_mem _ h)⟩, hK⟩
  have hD : ∀ M, va_D (pt_fr ad s.heap.size) (pt_W cA ad M) := pt_D hI (fun k h => Or.inl ⟨k, h, rfl⟩)
  have hS : va_S (pt_fr ad s.heap.size) s.heap s.heap [] := va_S.rf
  have hl := lv_entry ([.ref (ad k0)]) (n := 1) (Nat.le_of_ble_eq_true rfl)
  rw [lg_entry_eq]
  generalize (lg_sl ([.ref (ad k0)]) ++ List.replicate (1 - (lg_sl ([.ref (ad k0)])).length) Slot.unset).toArray = ls at hl ⊢
  have hl : lv_has ls 1 [(0, .ref (ad k0))] := hl
  have J20 : ∀ (xs0 : Int32) (M : pt_M) (H : Heap) (locs : List Loc) (ls : Array Slot), wjX5_isHolder_20 k0 Q xs0 M → va_P D pt_cl (pt_W cA ad M) H → va_S (pt_fr ad s.heap.size) s.heap H locs → lv_has ls 1 [] → W p l e (headSpec (Cond.code yX5_isHolder cX5_isHolder 1 (some .boolean) :: lw_all) ({ frames := 0, cells := 0, slots := 0, locals := 0 } : Room)).room s m ([.ref (ad k0)] : List Value).toArray below meth c H locs 0 0 (MQ below (va_Qi Q (pt_B D cA ad) (pt_fr ad s.heap.size)) ([.ref (ad k0)] : List Value).toArray s 0 0 (pt_fr ad s.heap.size)) (F0 m 20 ls [.int xs0]) := by
    intro xs0 M H locs ls hw hP hS hl
    unfold wjX5_isHolder_20 at hw
    exact W.zret (v := xs0) (ty := .boolean) hx hb hr (pt_zb_n hw.1) (fun t ht hW => ⟨⟨xs0, M, rfl, hw.2, by unfold pt_B; rw [ht]; exact hP⟩, hS.F ht⟩) hS.2.2 dX5_isHolder_20
  have J15 : ∀ (M : pt_M) (H : Heap) (locs : List Loc) (ls : Array Slot), wjX5_isHolder_15 k0 Q M → va_P D pt_cl (pt_W cA ad M) H → va_S (pt_fr ad s.heap.size) s.heap H locs → lv_has ls 1 [] → W p l e (headSpec (Cond.code yX5_isHolder cX5_isHolder 1 (some .boolean) :: lw_all) ({ frames := 0, cells := 0, slots := 0, locals := 0 } : Room)).room s m ([.ref (ad k0)] : List Value).toArray below meth c H locs 0 0 (MQ below (va_Qi Q (pt_B D cA ad) (pt_fr ad s.heap.size)) ([.ref (ad k0)] : List Value).toArray s 0 0 (pt_fr ad s.heap.size)) (F0 m 15 ls []) := by
    intro M H locs ls hw hP hS hl
    unfold wjX5_isHolder_15 at hw
    refine lv_iconst (v := 1) hx hb dX5_isHolder_15 (by decide) ?_
    refine lv_goto (tgt := 20) hx hb dX5_isHolder_16 (by decide) ?_
    exact J20 1 M _ _ _ hw hP hS (lv_sub hl [] rfl)
  unfold wpX5_isHolder at hw
  refine lv_aload_n hx hb dX5_isHolder_0 rfl (lv_at hl 0 rfl) ?_
  refine pt_get F hP (pt_c5 _ hk0) (pt_l5 hk0) inX5 rfl 2 (by decide) kw_135 rfl rfl dX5_isHolder_1 ?_
  refine lv_if_eq (tgt := 15) hx hb dX5_isHolder_4 (by decide) (fun hc4 => ?_) (fun hc4 => ?_)
  · replace hw := hw.1 hc4
    exact J15 M _ _ _ hw hP hS (lv_sub hl [] rfl)
  · replace hw := hw.2 hc4
    refine lv_aload_n hx hb dX5_isHolder_7 rfl (lv_at hl 0 rfl) ?_
    refine pt_get F hP (pt_c5 _ hk0) (pt_l5 hk0) inX5 rfl 2 (by decide) kw_135 rfl rfl dX5_isHolder_8 ?_
    refine lv_iconst (v := 1) hx hb dX5_isHolder_11 (by decide) ?_
    refine lv_icmp_ne (tgt := 19) hx hb dX5_isHolder_12 (by decide) (fun hc12 => ?_) (fun hc12 => ?_)
    · replace hw := hw.1 hc12
      refine lv_iconst (v := 0) hx hb dX5_isHolder_19 (by decide) ?_
      exact J20 0 M _ _ _ hw hP hS (lv_sub hl [] rfl)
    · replace hw := hw.2 hc12
      exact J15 M _ _ _ hw hP hS (lv_sub hl [] rfl)
-- ===== X5_putFirst
def wpX5_putFirst (k0 : Nat) (p1 : Int32) (M : pt_M) (Q : pt_M → Prop) : Prop :=
  ∀ M_2 : pt_M, M_2 = pt_st M k0 4 p1 → wpX7_setOf p1 M_2 (fun (r_7 : Int32) (M_7 : pt_M) => ∀ M_10 : pt_M, M_10 = pt_st M_7 k0 6 r_7 → Q M_10)
set_option maxHeartbeats 4000000 in
set_option maxRecDepth 100000 in
theorem mtX5_putFirst (l : Launch) (D : va_G) (cA : Nat → ClassId) (ad : Nat → Nat) (hI : pt_I ad) (sz : Nat) (k0 : Nat) (hk0 : pt_kd k0 = 5) (p1 : Int32) (M : pt_M) (Q : pt_M → Prop) (hw : wpX5_putFirst k0 p1 M Q) : Met l yX5_putFirst (Cond.code yX5_putFirst cX5_putFirst 2 none :: lw_all) ({ frames := 1, cells := 0, slots := 0, locals := 20 } : Room) (va_Pc [.ref (ad k0), .int p1] (pt_P D cA ad sz M)) (va_Qv Q (pt_B D cA ad) (pt_fr ad sz)) 0 0 (pt_fr ad sz) := by
  refine Met.ofW (cc := cX5_putFirst) (maxL := 2) (ret := none) (by decide) rfl ?_
  intro p e s m args below meth c s₁ B hml hv
  obtain ⟨rfl, hsz, hP, hK⟩ := hv
  have hx := B.exec
  have hb := B.bytes
  have hr := B.returns
  have hts0 := atoms_spec (ws := (Cond.code yX5_putFirst cX5_putFirst 2 none :: lw_all)) B.pre
  have hown : s.vm.findClass RX5 = some m.cls := findClass_of_methodNamed B.named
  have hlocks := B.notSynchronized
  subst hsz
  have F : pt_F p m c cX5_putFirst 2 s _ RX5 D cA := ⟨⟨hx, hb, hml, hown, fun w h => hts0 w (List.mem_cons_of_mem _ h)⟩, hK⟩
  have hD : ∀ M, va_D (pt_fr ad s.heap.size) (pt_W cA ad M) := pt_D hI (fun k h => Or.inl ⟨k, h, rfl⟩)
  have hS : va_S (pt_fr ad s.heap.size) s.heap s.heap [] := va_S.rf
  have hl := lv_entry ([.ref (ad k0), .int p1]) (n := 2) (Nat.le_of_ble_eq_true rfl)
  rw [lg_entry_eq]
  generalize (lg_sl ([.ref (ad k0), .int p1]) ++ List.replicate (2 - (lg_sl ([.ref (ad k0), .int p1])).length) Slot.unset).toArray = ls at hl ⊢
  have hl : lv_has ls 2 [(0, .ref (ad k0)), (1, .int p1)] := hl
  unfold wpX5_putFirst at hw
  refine lv_aload_n hx hb dX5_putFirst_0 rfl (lv_at hl 0 rfl) ?_
  refine lv_iload_n hx hb dX5_putFirst_1 rfl (lv_at hl 1 rfl) ?_
  refine pt_put F hP hD hS (pt_c5 _ hk0) (pt_l5 hk0) inX5 tyX5 tyX5_ok nmX5 rfl 4 (by decide) kw_143 rfl rfl rfl rfl (Nat.le_of_ble_eq_true rfl) (pt_c5 _ hk0) dX5_putFirst_2 (fun M_2 H locs eM_2 hP hS => ?_)
  replace hw := hw M_2 eM_2
  refine lv_aload_n hx hb dX5_putFirst_5 rfl (lv_at hl 0 rfl) ?_
  refine lv_iload_n hx hb dX5_putFirst_6 rfl (lv_at hl 1 rfl) ?_
  refine pt_calli (pt_runSN (n := 1) (As := [.int p1]) (rest := [.ref (ad k0)]) F hP (mtX7_setOf l D cA ad hI _ p1 M_2 _ hw) kw_103 kw_628 kw_52 kw_102 ⟨by decide, by decide, by decide +kernel⟩ ⟨rfl, rfl, Nat.le_of_ble_eq_true rfl, Nat.le_of_ble_eq_true rfl⟩ rfl hl.1 rfl (Nat.le_of_ble_eq_true rfl) dX5_putFirst_7 ⟨Nat.zero_le _, Nat.zero_le _⟩) hS (fun _ h => h) (fun r_7 M_7 H locs hw hP hS _ _ => ?_)
  refine pt_put F hP hD hS (pt_c5 _ hk0) (pt_l5 hk0) inX5 tyX5 tyX5_ok nmX5 rfl 6 (by decide) kw_149 rfl rfl rfl rfl (Nat.le_of_ble_eq_true rfl) (pt_c5 _ hk0) dX5_putFirst_10 (fun M_10 H locs eM_10 hP hS => ?_)
  replace hw := hw M_10 eM_10
  exact W.vret hx hb hr (fun t ht hW => ⟨⟨M_10, rfl, hw, by unfold pt_B; rw [ht]; exact hP⟩, hS.F ht⟩) hS.2.2 dX5_putFirst_13
-- ===== X5_putPart
def wjX5_putPart_48 (k0 : Nat) (p1 : Int32) (Q : pt_M → Prop)   (M : pt_M) : Prop :=
  Q M
def wjX5_putPart_19 (k0 : Nat) (p1 : Int32) (Q : pt_M → Prop)   (M : pt_M) : Prop :=
  wpX7_setOf p1 M (fun (r_25 : Int32) (M_25 : pt_M) => ∀ M_29 : pt_M, M_29 = pt_st M_25 k0 5 ((M k0 5) ||| r_25) → (¬ (M_29 k0 2) = 1 → wjX5_putPart_48 k0 p1 Q M_29) ∧ ((M_29 k0 2) = 1 → ∀ M_45 : pt_M, M_45 = pt_st M_29 k0 6 (M_29 k0 5) → wjX5_putPart_48 k0 p1 Q M_45))
def wpX5_putPart (k0 : Nat) (p1 : Int32) (M : pt_M) (Q : pt_M → Prop) : Prop :=
  (¬ (M k0 2) = 0 → wjX5_putPart_19 k0 p1 Q M) ∧ ((M k0 2) = 0 → (¬ (M k0 5) = 0 → wjX5_putPart_19 k0 p1 Q M) ∧ ((M k0 5) = 0 → wpX5_putFirst k0 p1 M (fun (M_16 : pt_M) => wjX5_putPart_19 k0 p1 Q M_16)))
set_option maxHeartbeats 4000000 in
set_option maxRecDepth 100000 in
theorem mtX5_putPart (l : Launch) (D : va_G) (cA : Nat → ClassId) (ad : Nat → Nat) (hI : pt_I ad) (sz : Nat) (k0 : Nat) (hk0 : pt_kd k0 = 5) (p1 : Int32) (M : pt_M) (Q : pt_M → Prop) (hw : wpX5_putPart k0 p1 M Q) : Met l yX5_putPart (Cond.code yX5_putPart cX5_putPart 2 none :: lw_all) ({ frames := 2, cells := 0, slots := 0, locals := 41 } : Room) (va_Pc [.ref (ad k0), .int p1] (pt_P D cA ad sz M)) (va_Qv Q (pt_B D cA ad) (pt_fr ad sz)) 0 0 (pt_fr ad sz) := by
  refine Met.ofW (cc := cX5_putPart) (maxL := 2) (ret := none) (by decide) rfl ?_
  intro p e s m args below meth c s₁ B hml hv
  obtain ⟨rfl, hsz, hP, hK⟩ := hv
  have hx := B.exec
  have hb := B.bytes
  have hr := B.returns
  have hts0 := atoms_spec (ws := (Cond.code yX5_putPart cX5_putPart 2 none :: lw_all)) B.pre
  have hown : s.vm.findClass RX5 = some m.cls := findClass_of_methodNamed B.named
  have hlocks := B.notSynchronized
  subst hsz
  have F : pt_F p m c cX5_putPart 2 s _ RX5 D cA := ⟨⟨hx, hb, hml, hown, fun w h => hts0 w (List.mem_cons_of_mem _ h)⟩, hK⟩
  have hD : ∀ M, va_D (pt_fr ad s.heap.size) (pt_W cA ad M) := pt_D hI (fun k h => Or.inl ⟨k, h, rfl⟩)
  have hS : va_S (pt_fr ad s.heap.size) s.heap s.heap [] := va_S.rf
  have hl := lv_entry ([.ref (ad k0), .int p1]) (n := 2) (Nat.le_of_ble_eq_true rfl)
  rw [lg_entry_eq]
  generalize (lg_sl ([.ref (ad k0), .int p1]) ++ List.replicate (2 - (lg_sl ([.ref (ad k0), .int p1])).length) Slot.unset).toArray = ls at hl ⊢
  have hl : lv_has ls 2 [(0, .ref (ad k0)), (1, .int p1)] := hl
  have J48 : ∀ (M : pt_M) (H : Heap) (locs : List Loc) (ls : Array Slot), wjX5_putPart_48 k0 p1 Q M → va_P D pt_cl (pt_W cA ad M) H → va_S (pt_fr ad s.heap.size) s.heap H locs → lv_has ls 2 [] → W p l e (headSpec (Cond.code yX5_putPart cX5_putPart 2 none :: lw_all) ({ frames := 2, cells := 0, slots := 0, locals := 41 } : Room)).room s m ([.ref (ad k0), .int p1] : List Value).toArray below meth c H locs 0 0 (MQ below (va_Qv Q (pt_B D cA ad) (pt_fr ad s.heap.size)) ([.ref (ad k0), .int p1] : List Value).toArray s 0 0 (pt_fr ad s.heap.size)) (F0 m 48 ls []) := by
    intro M H locs ls hw hP hS hl
    unfold wjX5_putPart_48 at hw
    exact W.vret hx hb hr (fun t ht hW => ⟨⟨M, rfl, hw, by unfold pt_B; rw [ht]; exact hP⟩, hS.F ht⟩) hS.2.2 dX5_putPart_48
  have J19 : ∀ (M : pt_M) (H : Heap) (locs : List Loc) (ls : Array Slot), wjX5_putPart_19 k0 p1 Q M → va_P D pt_cl (pt_W cA ad M) H → va_S (pt_fr ad s.heap.size) s.heap H locs → lv_has ls 2 [(0, .ref (ad k0)), (1, .int p1)] → W p l e (headSpec (Cond.code yX5_putPart cX5_putPart 2 none :: lw_all) ({ frames := 2, cells := 0, slots := 0, locals := 41 } : Room)).room s m ([.ref (ad k0), .int p1] : List Value).toArray below meth c H locs 0 0 (MQ below (va_Qv Q (pt_B D cA ad) (pt_fr ad s.heap.size)) ([.ref (ad k0), .int p1] : List Value).toArray s 0 0 (pt_fr ad s.heap.size)) (F0 m 19 ls []) := by
    intro M H locs ls hw hP hS hl
    unfold wjX5_putPart_19 at hw
    refine lv_aload_n hx hb dX5_putPart_19 rfl (lv_at hl 0 rfl) ?_
    refine lv_dup hx hb dX5_putPart_20 rfl ?_
    refine pt_get F hP (pt_c5 _ hk0) (pt_l5 hk0) inX5 rfl 5 (by decide) kw_147 rfl rfl dX5_putPart_21 ?_
    refine lv_iload_n hx hb dX5_putPart_24 rfl (lv_at hl 1 rfl) ?_
    refine pt_calli (pt_runSN (n := 1) (As := [.int p1]) (rest := [.int (M k0 5), .ref (ad k0)]) F hP (mtX7_setOf l D cA ad hI _ p1 M _ hw) kw_103 kw_628 kw_52 kw_102 ⟨by decide, by decide, by decide +kernel⟩ ⟨rfl, rfl, Nat.le_of_ble_eq_true rfl, Nat.le_of_ble_eq_true rfl⟩ rfl hl.1 rfl (Nat.le_of_ble_eq_true rfl) dX5_putPart_25 ⟨Nat.zero_le _, Nat.zero_le _⟩) hS (fun _ h => h) (fun r_25 M_25 H locs hw hP hS _ _ => ?_)
    refine lv_ior hx hb dX5_putPart_28 ?_
    refine pt_put F hP hD hS (pt_c5 _ hk0) (pt_l5 hk0) inX5 tyX5 tyX5_ok nmX5 rfl 5 (by decide) kw_147 rfl rfl rfl rfl (Nat.le_of_ble_eq_true rfl) (pt_c5 _ hk0) dX5_putPart_29 (fun M_29 H locs eM_29 hP hS => ?_)
    replace hw := hw M_29 eM_29
    refine lv_aload_n hx hb dX5_putPart_32 rfl (lv_at hl 0 rfl) ?_
    refine pt_get F hP (pt_c5 _ hk0) (pt_l5 hk0) inX5 rfl 2 (by decide) kw_135 rfl rfl dX5_putPart_33 ?_
    refine lv_iconst (v := 1) hx hb dX5_putPart_36 (by decide) ?_
    refine lv_icmp_ne (tgt := 48) hx hb dX5_putPart_37 (by decide) (fun hc37 => ?_) (fun hc37 => ?_)
    · replace hw := hw.1 hc37
      exact J48 M_29 _ _ _ hw hP hS (lv_sub hl [] rfl)
    · replace hw := hw.2 hc37
      refine lv_aload_n hx hb dX5_putPart_40 rfl (lv_at hl 0 rfl) ?_
      refine lv_aload_n hx hb dX5_putPart_41 rfl (lv_at hl 0 rfl) ?_
      refine pt_get F hP (pt_c5 _ hk0) (pt_l5 hk0) inX5 rfl 5 (by decide) kw_147 rfl rfl dX5_putPart_42 ?_
      refine pt_put F hP hD hS (pt_c5 _ hk0) (pt_l5 hk0) inX5 tyX5 tyX5_ok nmX5 rfl 6 (by decide) kw_149 rfl rfl rfl rfl (Nat.le_of_ble_eq_true rfl) (pt_c5 _ hk0) dX5_putPart_45 (fun M_45 H locs eM_45 hP hS => ?_)
      replace hw := hw M_45 eM_45
      exact J48 M_45 _ _ _ hw hP hS (lv_sub hl [] rfl)
  unfold wpX5_putPart at hw
  refine lv_aload_n hx hb dX5_putPart_0 rfl (lv_at hl 0 rfl) ?_
  refine pt_get F hP (pt_c5 _ hk0) (pt_l5 hk0) inX5 rfl 2 (by decide) kw_135 rfl rfl dX5_putPart_1 ?_
  refine lv_if_ne (tgt := 19) hx hb dX5_putPart_4 (by decide) (fun hc4 => ?_) (fun hc4 => ?_)
  · replace hw := hw.1 hc4
    exact J19 M _ _ _ hw hP hS (lv_sub hl [0, 1] rfl)
  · replace hw := hw.2 hc4
    refine lv_aload_n hx hb dX5_putPart_7 rfl (lv_at hl 0 rfl) ?_
    refine pt_get F hP (pt_c5 _ hk0) (pt_l5 hk0) inX5 rfl 5 (by decide) kw_147 rfl rfl dX5_putPart_8 ?_
    refine lv_if_ne (tgt := 19) hx hb dX5_putPart_11 (by decide) (fun hc11 => ?_) (fun hc11 => ?_)
    · replace hw := hw.1 hc11
      exact J19 M _ _ _ hw hP hS (lv_sub hl [0, 1] rfl)
    · replace hw := hw.2 hc11
      refine lv_aload_n hx hb dX5_putPart_14 rfl (lv_at hl 0 rfl) ?_
      refine lv_iload_n hx hb dX5_putPart_15 rfl (lv_at hl 1 rfl) ?_
      refine pt_callv (pt_runV (n := 1) (As := [.int p1]) (rest := []) F hP (pt_c5 _ hk0) (pt_l5 hk0) rfl (mtX5_putFirst l D cA ad hI _ k0 hk0 p1 M _ hw) kw_627 kw_624 kw_54 kw_625 kw_626 ⟨by decide, by decide, by decide +kernel⟩ ⟨rfl, rfl, Nat.le_of_ble_eq_true rfl, Nat.le_of_ble_eq_true rfl⟩ rfl hl.1 rfl (Nat.le_of_ble_eq_true rfl) dX5_putPart_16 ⟨Nat.zero_le _, Nat.zero_le _⟩) hS (fun _ h => h) (fun M_16 H locs hw hP hS _ _ => ?_)
      exact J19 M_16 _ _ _ hw hP hS (lv_sub hl [0, 1] rfl)
-- ===== X6_isAllowed
def wjX6_isAllowed_88 (k0 : Nat) (k1 : Nat) (Q : Int32 → pt_M → Prop)  (xs0 : Int32) (M : pt_M) : Prop :=
  pt_zb xs0 ∧ Q xs0 M
def wjX6_isAllowed_69 (k0 : Nat) (k1 : Nat) (Q : Int32 → pt_M → Prop)  (xs0 : Int32) (M : pt_M) : Prop :=
  pt_zb xs0 ∧ Q xs0 M
def wjX6_isAllowed_50 (k0 : Nat) (k1 : Nat) (Q : Int32 → pt_M → Prop)  (xs0 : Int32) (M : pt_M) : Prop :=
  pt_zb xs0 ∧ Q xs0 M
def wpX6_isAllowed (k0 : Nat) (k1 : Nat) (M : pt_M) (Q : Int32 → pt_M → Prop) : Prop :=
  ((M k0 6) = 1 → vp_in (M k0 7) 4 ∧ (((M k0 8) ≤ (M k1 (Int32.toNatClampNeg (M k0 7))) → wjX6_isAllowed_50 k0 k1 Q 0 M) ∧ (¬ (M k0 8) ≤ (M k1 (Int32.toNatClampNeg (M k0 7))) → wjX6_isAllowed_50 k0 k1 Q 1 M))) ∧ (¬ (M k0 6) = 1 → ((M k0 6) = 2 → vp_in (M k0 7) 4 ∧ ((¬ (M k1 (Int32.toNatClampNeg (M k0 7))) = (M k0 8) → wjX6_isAllowed_69 k0 k1 Q 0 M) ∧ ((M k1 (Int32.toNatClampNeg (M k0 7))) = (M k0 8) → wjX6_isAllowed_69 k0 k1 Q 1 M))) ∧ (¬ (M k0 6) = 2 → ((M k0 6) = 3 → vp_in (M k0 7) 4 ∧ (((M k1 (Int32.toNatClampNeg (M k0 7))) ≤ (M k0 8) → wjX6_isAllowed_88 k0 k1 Q 0 M) ∧ (¬ (M k1 (Int32.toNatClampNeg (M k0 7))) ≤ (M k0 8) → wjX6_isAllowed_88 k0 k1 Q 1 M))) ∧ (¬ (M k0 6) = 3 → Q 1 M)))
set_option maxHeartbeats 4000000 in
set_option maxRecDepth 100000 in
theorem mtX6_isAllowed (l : Launch) (D : va_G) (cA : Nat → ClassId) (ad : Nat → Nat) (hI : pt_I ad) (sz : Nat) (k0 : Nat) (hk0 : pt_kd k0 = 6) (k1 : Nat) (hk1 : pt_kd k1 = 8 ∧ pt_len k1 = 4) (M : pt_M) (Q : Int32 → pt_M → Prop) (hw : wpX6_isAllowed k0 k1 M Q) : Met l yX6_isAllowed (Cond.code yX6_isAllowed cX6_isAllowed 2 (some .boolean) :: lw_all) ({ frames := 0, cells := 0, slots := 0, locals := 0 } : Room) (va_Pc [.ref (ad k0), .ref (ad k1)] (pt_P D cA ad sz M)) (va_Qi Q (pt_B D cA ad) (pt_fr ad sz)) 0 0 (pt_fr ad sz) := by
  refine Met.ofW (cc := cX6_isAllowed) (maxL := 2) (ret := (some .boolean)) (by decide) rfl ?_
  intro p e s m args below meth c s₁ B hml hv
  obtain ⟨rfl, hsz, hP, hK⟩ := hv
  have hx := B.exec
  have hb := B.bytes
  have hr := B.returns
  have hts0 := atoms_spec (ws := (Cond.code yX6_isAllowed cX6_isAllowed 2 (some .boolean) :: lw_all)) B.pre
  have hown : s.vm.findClass RX6 = some m.cls := findClass_of_methodNamed B.named
  have hlocks := B.notSynchronized
  subst hsz
  have F : pt_F p m c cX6_isAllowed 2 s _ RX6 D cA := ⟨⟨hx, hb, hml, hown, fun w h => hts0 w (List.mem_cons_of_mem _ h)⟩, hK⟩
  have hD : ∀ M, va_D (pt_fr ad s.heap.size) (pt_W cA ad M) := pt_D hI (fun k h => Or.inl ⟨k, h, rfl⟩)
  have hS : va_S (pt_fr ad s.heap.size) s.heap s.heap [] := va_S.rf
  have hl := lv_entry ([.ref (ad k0), .ref (ad k1)]) (n := 2) (Nat.le_of_ble_eq_true rfl)
  rw [lg_entry_eq]
  generalize (lg_sl ([.ref (ad k0), .ref (ad k1)]) ++ List.replicate (2 - (lg_sl ([.ref (ad k0), .ref (ad k1)])).length) Slot.unset).toArray = ls at hl ⊢
  have hl : lv_has ls 2 [(0, .ref (ad k0)), (1, .ref (ad k1))] := hl
  have J88 : ∀ (xs0 : Int32) (M : pt_M) (H : Heap) (locs : List Loc) (ls : Array Slot), wjX6_isAllowed_88 k0 k1 Q xs0 M → va_P D pt_cl (pt_W cA ad M) H → va_S (pt_fr ad s.heap.size) s.heap H locs → lv_has ls 2 [] → W p l e (headSpec (Cond.code yX6_isAllowed cX6_isAllowed 2 (some .boolean) :: lw_all) ({ frames := 0, cells := 0, slots := 0, locals := 0 } : Room)).room s m ([.ref (ad k0), .ref (ad k1)] : List Value).toArray below meth c H locs 0 0 (MQ below (va_Qi Q (pt_B D cA ad) (pt_fr ad s.heap.size)) ([.ref (ad k0), .ref (ad k1)] : List Value).toArray s 0 0 (pt_fr ad s.heap.size)) (F0 m 88 ls [.int xs0]) := by
    intro xs0 M H locs ls hw hP hS hl
    unfold wjX6_isAllowed_88 at hw
    exact W.zret (v := xs0) (ty := .boolean) hx hb hr (pt_zb_n hw.1) (fun t ht hW => ⟨⟨xs0, M, rfl, hw.2, by unfold pt_B; rw [ht]; exact hP⟩, hS.F ht⟩) hS.2.2 dX6_isAllowed_88
  have J69 : ∀ (xs0 : Int32) (M : pt_M) (H : Heap) (locs : List Loc) (ls : Array Slot), wjX6_isAllowed_69 k0 k1 Q xs0 M → va_P D pt_cl (pt_W cA ad M) H → va_S (pt_fr ad s.heap.size) s.heap H locs → lv_has ls 2 [] → W p l e (headSpec (Cond.code yX6_isAllowed cX6_isAllowed 2 (some .boolean) :: lw_all) ({ frames := 0, cells := 0, slots := 0, locals := 0 } : Room)).room s m ([.ref (ad k0), .ref (ad k1)] : List Value).toArray below meth c H locs 0 0 (MQ below (va_Qi Q (pt_B D cA ad) (pt_fr ad s.heap.size)) ([.ref (ad k0), .ref (ad k1)] : List Value).toArray s 0 0 (pt_fr ad s.heap.size)) (F0 m 69 ls [.int xs0]) := by
    intro xs0 M H locs ls hw hP hS hl
    unfold wjX6_isAllowed_69 at hw
    exact W.zret (v := xs0) (ty := .boolean) hx hb hr (pt_zb_n hw.1) (fun t ht hW => ⟨⟨xs0, M, rfl, hw.2, by unfold pt_B; rw [ht]; exact hP⟩, hS.F ht⟩) hS.2.2 dX6_isAllowed_69
  have J50 : ∀ (xs0 : Int32) (M : pt_M) (H : Heap) (locs : List Loc) (ls : Array Slot), wjX6_isAllowed_50 k0 k1 Q xs0 M → va_P D pt_cl (pt_W cA ad M) H → va_S (pt_fr ad s.heap.size) s.heap H locs → lv_has ls 2 [] → W p l e (headSpec (Cond.code yX6_isAllowed cX6_isAllowed 2 (some .boolean) :: lw_all) ({ frames := 0, cells := 0, slots := 0, locals := 0 } : Room)).room s m ([.ref (ad k0), .ref (ad k1)] : List Value).toArray below meth c H locs 0 0 (MQ below (va_Qi Q (pt_B D cA ad) (pt_fr ad s.heap.size)) ([.ref (ad k0), .ref (ad k1)] : List Value).toArray s 0 0 (pt_fr ad s.heap.size)) (F0 m 50 ls [.int xs0]) := by
    intro xs0 M H locs ls hw hP hS hl
    unfold wjX6_isAllowed_50 at hw
    exact W.zret (v := xs0) (ty := .boolean) hx hb hr (pt_zb_n hw.1) (fun t ht hW => ⟨⟨xs0, M, rfl, hw.2, by unfold pt_B; rw [ht]; exact hP⟩, hS.F ht⟩) hS.2.2 dX6_isAllowed_50
  unfold wpX6_isAllowed at hw
  refine lv_aload_n hx hb dX6_isAllowed_0 rfl (lv_at hl 0 rfl) ?_
  refine pt_get F hP (pt_c6 _ hk0) (pt_l6 hk0) inX6 rfl 6 (by decide) kw_197 rfl rfl dX6_isAllowed_1 ?_
  by_cases hn4_0 : (M k0 6) = 1
  · replace hw := hw.1 hn4_0
    refine lv_tableIn (off := 28) (tgt := 32) hx hb dX6_isAllowed_4 (by rw [hn4_0]; decide) (by rw [hn4_0]; decide) (by rw [hn4_0]; rfl) (by decide) ?_
    refine lv_aload_n hx hb dX6_isAllowed_32 rfl (lv_at hl 1 rfl) ?_
    refine lv_aload_n hx hb dX6_isAllowed_33 rfl (lv_at hl 0 rfl) ?_
    refine pt_get F hP (pt_c6 _ hk0) (pt_l6 hk0) inX6 rfl 7 (by decide) kw_199 rfl rfl dX6_isAllowed_34 ?_
    have hv37 := hw.1
    replace hw := hw.2
    refine pt_iald F hP hk1 hv37 dX6_isAllowed_37 ?_
    refine lv_aload_n hx hb dX6_isAllowed_38 rfl (lv_at hl 0 rfl) ?_
    refine pt_get F hP (pt_c6 _ hk0) (pt_l6 hk0) inX6 rfl 8 (by decide) kw_201 rfl rfl dX6_isAllowed_39 ?_
    refine lv_icmp_ge (tgt := 49) hx hb dX6_isAllowed_42 (by decide) (fun hc42 => ?_) (fun hc42 => ?_)
    · replace hw := hw.1 hc42
      refine lv_iconst (v := 0) hx hb dX6_isAllowed_49 (by decide) ?_
      exact J50 0 M _ _ _ hw hP hS (lv_sub hl [] rfl)
    · replace hw := hw.2 hc42
      refine lv_iconst (v := 1) hx hb dX6_isAllowed_45 (by decide) ?_
      refine lv_goto (tgt := 50) hx hb dX6_isAllowed_46 (by decide) ?_
      exact J50 1 M _ _ _ hw hP hS (lv_sub hl [] rfl)
  · replace hw := hw.2 hn4_0
    by_cases hn4_1 : (M k0 6) = 2
    · replace hw := hw.1 hn4_1
      refine lv_tableIn (off := 47) (tgt := 51) hx hb dX6_isAllowed_4 (by rw [hn4_1]; decide) (by rw [hn4_1]; decide) (by rw [hn4_1]; rfl) (by decide) ?_
      refine lv_aload_n hx hb dX6_isAllowed_51 rfl (lv_at hl 1 rfl) ?_
      refine lv_aload_n hx hb dX6_isAllowed_52 rfl (lv_at hl 0 rfl) ?_
      refine pt_get F hP (pt_c6 _ hk0) (pt_l6 hk0) inX6 rfl 7 (by decide) kw_199 rfl rfl dX6_isAllowed_53 ?_
      have hv56 := hw.1
      replace hw := hw.2
      refine pt_iald F hP hk1 hv56 dX6_isAllowed_56 ?_
      refine lv_aload_n hx hb dX6_isAllowed_57 rfl (lv_at hl 0 rfl) ?_
      refine pt_get F hP (pt_c6 _ hk0) (pt_l6 hk0) inX6 rfl 8 (by decide) kw_201 rfl rfl dX6_isAllowed_58 ?_
      refine lv_icmp_ne (tgt := 68) hx hb dX6_isAllowed_61 (by decide) (fun hc61 => ?_) (fun hc61 => ?_)
      · replace hw := hw.1 hc61
        refine lv_iconst (v := 0) hx hb dX6_isAllowed_68 (by decide) ?_
        exact J69 0 M _ _ _ hw hP hS (lv_sub hl [] rfl)
      · replace hw := hw.2 hc61
        refine lv_iconst (v := 1) hx hb dX6_isAllowed_64 (by decide) ?_
        refine lv_goto (tgt := 69) hx hb dX6_isAllowed_65 (by decide) ?_
        exact J69 1 M _ _ _ hw hP hS (lv_sub hl [] rfl)
    · replace hw := hw.2 hn4_1
      by_cases hn4_2 : (M k0 6) = 3
      · replace hw := hw.1 hn4_2
        refine lv_tableIn (off := 66) (tgt := 70) hx hb dX6_isAllowed_4 (by rw [hn4_2]; decide) (by rw [hn4_2]; decide) (by rw [hn4_2]; rfl) (by decide) ?_
        refine lv_aload_n hx hb dX6_isAllowed_70 rfl (lv_at hl 1 rfl) ?_
        refine lv_aload_n hx hb dX6_isAllowed_71 rfl (lv_at hl 0 rfl) ?_
        refine pt_get F hP (pt_c6 _ hk0) (pt_l6 hk0) inX6 rfl 7 (by decide) kw_199 rfl rfl dX6_isAllowed_72 ?_
        have hv75 := hw.1
        replace hw := hw.2
        refine pt_iald F hP hk1 hv75 dX6_isAllowed_75 ?_
        refine lv_aload_n hx hb dX6_isAllowed_76 rfl (lv_at hl 0 rfl) ?_
        refine pt_get F hP (pt_c6 _ hk0) (pt_l6 hk0) inX6 rfl 8 (by decide) kw_201 rfl rfl dX6_isAllowed_77 ?_
        refine lv_icmp_le (tgt := 87) hx hb dX6_isAllowed_80 (by decide) (fun hc80 => ?_) (fun hc80 => ?_)
        · replace hw := hw.1 hc80
          refine lv_iconst (v := 0) hx hb dX6_isAllowed_87 (by decide) ?_
          exact J88 0 M _ _ _ hw hP hS (lv_sub hl [] rfl)
        · replace hw := hw.2 hc80
          refine lv_iconst (v := 1) hx hb dX6_isAllowed_83 (by decide) ?_
          refine lv_goto (tgt := 88) hx hb dX6_isAllowed_84 (by decide) ?_
          exact J88 1 M _ _ _ hw hP hS (lv_sub hl [] rfl)
      · replace hw := hw.2 hn4_2
        refine lv_tableOut (tgt := 89) hx hb dX6_isAllowed_4 (pt_out13 hn4_0 hn4_1 hn4_2) (by decide) ?_
        refine lv_iconst (v := 1) hx hb dX6_isAllowed_89 (by decide) ?_
        exact W.zret (v := 1) (ty := .boolean) hx hb hr rfl (fun t ht hW => ⟨⟨1, M, rfl, hw, by unfold pt_B; rw [ht]; exact hP⟩, hS.F ht⟩) hS.2.2 dX6_isAllowed_90
-- ===== X4_deactivate
def lbX4_deactivate_7 (k0 : Nat) (Q : pt_M → Prop)  (R7 : Int32 → pt_M → Prop) (x1 : Int32) (M : pt_M) : Prop :=
  (20 ≤ x1 → Q M) ∧ (¬ 20 ≤ x1 → vp_in x1 20 ∧ ∀ M_22 : pt_M, M_22 = pt_st M (k0 + 1) (Int32.toNatClampNeg x1) (-1) → ∀ x1_23 : Int32, x1_23 = x1 + 1 → R7 x1_23 M_22)
def lpX4_deactivate_7 (k0 : Nat) (Q : pt_M → Prop)  : Nat → Int32 → pt_M → Prop
  | 0 => fun _ _ => False
  | n + 1 => fun x1 M => lbX4_deactivate_7 k0 Q (lpX4_deactivate_7 k0 Q n) x1 M
def wpX4_deactivate (k0 : Nat) (M : pt_M) (Q : pt_M → Prop) : Prop :=
  ∀ M_2 : pt_M, M_2 = pt_st M k0 3 0 → ∃ n : Nat, lpX4_deactivate_7 k0 Q n 0 M_2
set_option maxHeartbeats 4000000 in
set_option maxRecDepth 100000 in
theorem mtX4_deactivate (l : Launch) (D : va_G) (cA : Nat → ClassId) (ad : Nat → Nat) (hI : pt_I ad) (sz : Nat) (k0 : Nat) (hk0 : pt_kd k0 = 4) (M : pt_M) (Q : pt_M → Prop) (hw : wpX4_deactivate k0 M Q) : Met l yX4_deactivate (Cond.code yX4_deactivate cX4_deactivate 2 none :: lw_all) ({ frames := 0, cells := 0, slots := 0, locals := 0 } : Room) (va_Pc [.ref (ad k0)] (pt_P D cA ad sz M)) (va_Qv Q (pt_B D cA ad) (pt_fr ad sz)) 0 0 (pt_fr ad sz) := by
  refine Met.ofW (cc := cX4_deactivate) (maxL := 2) (ret := none) (by decide) rfl ?_
  intro p e s m args below meth c s₁ B hml hv
  obtain ⟨rfl, hsz, hP, hK⟩ := hv
  have hx := B.exec
  have hb := B.bytes
  have hr := B.returns
  have hts0 := atoms_spec (ws := (Cond.code yX4_deactivate cX4_deactivate 2 none :: lw_all)) B.pre
  have hown : s.vm.findClass RX4 = some m.cls := findClass_of_methodNamed B.named
  have hlocks := B.notSynchronized
  subst hsz
  have F : pt_F p m c cX4_deactivate 2 s _ RX4 D cA := ⟨⟨hx, hb, hml, hown, fun w h => hts0 w (List.mem_cons_of_mem _ h)⟩, hK⟩
  have hD : ∀ M, va_D (pt_fr ad s.heap.size) (pt_W cA ad M) := pt_D hI (fun k h => Or.inl ⟨k, h, rfl⟩)
  have hS : va_S (pt_fr ad s.heap.size) s.heap s.heap [] := va_S.rf
  have hl := lv_entry ([.ref (ad k0)]) (n := 2) (Nat.le_of_ble_eq_true rfl)
  rw [lg_entry_eq]
  generalize (lg_sl ([.ref (ad k0)]) ++ List.replicate (2 - (lg_sl ([.ref (ad k0)])).length) Slot.unset).toArray = ls at hl ⊢
  have hl : lv_has ls 2 [(0, .ref (ad k0))] := hl
  have L7 : ∀ (n7 : Nat) (x1 : Int32) (M : pt_M) (H : Heap) (locs : List Loc) (ls : Array Slot), lpX4_deactivate_7 k0 Q n7 x1 M → va_P D pt_cl (pt_W cA ad M) H → va_S (pt_fr ad s.heap.size) s.heap H locs → lv_has ls 2 [(0, .ref (ad k0)), (1, .int x1)] → W p l e (headSpec (Cond.code yX4_deactivate cX4_deactivate 2 none :: lw_all) ({ frames := 0, cells := 0, slots := 0, locals := 0 } : Room)).room s m ([.ref (ad k0)] : List Value).toArray below meth c H locs 0 0 (MQ below (va_Qv Q (pt_B D cA ad) (pt_fr ad s.heap.size)) ([.ref (ad k0)] : List Value).toArray s 0 0 (pt_fr ad s.heap.size)) (F0 m 7 ls []) := by
    intro n7
    induction n7 with
    | zero => intro x1 M H locs ls hw; exact hw.elim
    | succ n7 ih7 =>
      intro x1 M H locs ls hw hP hS hl
      replace hw : lbX4_deactivate_7 k0 Q (lpX4_deactivate_7 k0 Q n7) x1 M := hw
      unfold lbX4_deactivate_7 at hw
      refine lv_iload_n hx hb dX4_deactivate_7 rfl (lv_at hl 1 rfl) ?_
      refine lv_aload_n hx hb dX4_deactivate_8 rfl (lv_at hl 0 rfl) ?_
      refine pt_get F hP (pt_c4 _ hk0) (pt_l4 hk0) inX4 rfl 0 (by decide) kw_267 rfl rfl dX4_deactivate_9 ?_
      refine pt_alen (v := 20) F hP (pt_4a hk0) rfl dX4_deactivate_12 ?_
      refine lv_icmp_ge (tgt := 29) hx hb dX4_deactivate_13 (by decide) (fun hc13 => ?_) (fun hc13 => ?_)
      · replace hw := hw.1 hc13
        exact W.vret hx hb hr (fun t ht hW => ⟨⟨M, rfl, hw, by unfold pt_B; rw [ht]; exact hP⟩, hS.F ht⟩) hS.2.2 dX4_deactivate_29
      · replace hw := hw.2 hc13
        refine lv_aload_n hx hb dX4_deactivate_16 rfl (lv_at hl 0 rfl) ?_
        refine pt_get F hP (pt_c4 _ hk0) (pt_l4 hk0) inX4 rfl 0 (by decide) kw_267 rfl rfl dX4_deactivate_17 ?_
        refine lv_iload_n hx hb dX4_deactivate_20 rfl (lv_at hl 1 rfl) ?_
        refine lv_iconst (v := (-1)) hx hb dX4_deactivate_21 (by decide) ?_
        have hv22 := hw.1
        replace hw := hw.2
        refine pt_iast F hP hD hS (pt_4a hk0) hv22 dX4_deactivate_22 (fun M_22 H locs eM_22 hP hS => ?_)
        replace hw := hw M_22 eM_22
        obtain ⟨x1_23, ex1_23⟩ : ∃ y : Int32, y = x1 + 1 := ⟨_, rfl⟩
        replace hw := hw x1_23 ex1_23
        refine lv_iinc (v := x1_23) (lv' := [(1, .int x1_23), (0, .ref (ad k0))]) hx hb dX4_deactivate_23 hl (k := 1) rfl (by rw [ex1_23]; rfl) (by decide) rfl (fun ls hl => ?_)
        refine lv_goto (tgt := 7) hx hb dX4_deactivate_26 (by decide) ?_
        exact ih7 x1_23 M_22 _ _ _ hw hP hS (lv_sub hl [1, 0] rfl)
  unfold wpX4_deactivate at hw
  refine lv_aload_n hx hb dX4_deactivate_0 rfl (lv_at hl 0 rfl) ?_
  refine lv_iconst (v := 0) hx hb dX4_deactivate_1 (by decide) ?_
  refine pt_put F hP hD hS (pt_c4 _ hk0) (pt_l4 hk0) inX4 tyX4 tyX4_ok nmX4 rfl 3 (by decide) kw_276 rfl rfl rfl rfl (Nat.le_of_ble_eq_true rfl) (pt_c4 _ hk0) dX4_deactivate_2 (fun M_2 H locs eM_2 hP hS => ?_)
  replace hw := hw M_2 eM_2
  refine lv_iconst (v := 0) hx hb dX4_deactivate_5 (by decide) ?_
  refine lv_istore_n (lv' := [(1, .int 0), (0, .ref (ad k0))]) hx hb dX4_deactivate_6 rfl hl (by decide) rfl (fun ls hl => ?_)
  obtain ⟨n_, hw⟩ := hw
  exact L7 n_ 0 M_2 _ _ _ hw hP hS (lv_sub hl [1, 0] rfl)
