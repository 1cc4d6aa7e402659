-- ===== PJ6_bitCount
def wpPJ6_bitCount (p1 : Int32) (M : pt_M) (Q : Int32 → pt_M → Prop) : Prop :=
  ∀ x0_9 : Int32, x0_9 = (p1 - ((((p1 : Int32).toUInt32 >>> ((1 : Int32).toUInt32 &&& Int32.toUInt32 31)).toInt32) &&& 1431655765)) → ∀ x0_23 : Int32, x0_23 = ((x0_9 &&& 858993459) + ((((x0_9 : Int32).toUInt32 >>> ((2 : Int32).toUInt32 &&& Int32.toUInt32 31)).toInt32) &&& 858993459)) → ∀ x0_33 : Int32, x0_33 = ((x0_23 + (((x0_23 : Int32).toUInt32 >>> ((4 : Int32).toUInt32 &&& Int32.toUInt32 31)).toInt32)) &&& 252645135) → ∀ x0_40 : Int32, x0_40 = (x0_33 + (((x0_33 : Int32).toUInt32 >>> ((8 : Int32).toUInt32 &&& Int32.toUInt32 31)).toInt32)) → ∀ x0_47 : Int32, x0_47 = (x0_40 + (((x0_40 : Int32).toUInt32 >>> ((16 : Int32).toUInt32 &&& Int32.toUInt32 31)).toInt32)) → Q (x0_47 &&& 63) M
set_option maxHeartbeats 4000000 in
set_option maxRecDepth 100000 in
theorem mtPJ6_bitCount (l : Launch) (D : va_G) (cA : Nat → ClassId) (p1 : Int32) (M : pt_M) (Q : Int32 → pt_M → Prop) (hw : wpPJ6_bitCount p1 M Q) : Met l yJ6_bitCount_0f7a4 (Cond.code yJ6_bitCount_0f7a4 cJ6_bitCount_0f7a4 1 (some .int) :: lw_all) ({ frames := 0, cells := 0, slots := 0, locals := 0 } : Room) (va_Pc [.int p1] (rt_PK D cA)) (va_Qi (fun r (_ : Unit) => Q r M) (fun _ _ => True) (fun _ => False)) 0 0 (fun _ => False) := by
  refine Met.ofW (cc := cJ6_bitCount_0f7a4) (maxL := 1) (ret := (some .int)) (by decide) rfl ?_
  intro p e s m args below meth c s₁ B hml hv
  obtain ⟨rfl, hK⟩ := hv
  have hx := B.exec
  have hb := B.bytes
  have hr := B.returns
  have hts0 := atoms_spec (ws := (Cond.code yJ6_bitCount_0f7a4 cJ6_bitCount_0f7a4 1 (some .int) :: lw_all)) B.pre
  have hown : s.vm.findClass RJ6 = some m.cls := findClass_of_methodNamed B.named
  have hlocks := B.notSynchronized
  have F : pt_F p m c cJ6_bitCount_0f7a4 1 s _ RJ6 D cA := ⟨⟨hx, hb, hml, hown, fun w h => hts0 w (List.mem_cons_of_mem _ h)⟩, hK⟩
  have hS : va_S (fun _ => False) s.heap s.heap [] := va_S.rf
  have hl := lv_entry ([.int p1]) (n := 1) (Nat.le_of_ble_eq_true rfl)
  rw [lg_entry_eq]
  generalize (lg_sl ([.int p1]) ++ List.replicate (1 - (lg_sl ([.int p1])).length) Slot.unset).toArray = ls at hl ⊢
  have hl : lv_has ls 1 [(0, .int p1)] := hl
  unfold wpPJ6_bitCount at hw
  refine lv_iload_n hx hb dJ6_bitCount_0f7a4_0 rfl (lv_at hl 0 rfl) ?_
  refine lv_iload_n hx hb dJ6_bitCount_0f7a4_1 rfl (lv_at hl 0 rfl) ?_
  refine lv_iconst (v := 1) hx hb dJ6_bitCount_0f7a4_2 (by decide) ?_
  refine lv_iushr hx hb dJ6_bitCount_0f7a4_3 rfl ?_
  refine lv_ldcw (v := 1431655765) hx hb hown (F.1.2.2.2.2 _ kw_444) dJ6_bitCount_0f7a4_4 ?_
  refine lv_iand hx hb dJ6_bitCount_0f7a4_7 ?_
  refine lv_isub hx hb dJ6_bitCount_0f7a4_8 ?_
  refine lv_topi (fun x0_9 ex0_9 => ?_)
  replace hw := hw x0_9 ex0_9
  refine lv_istore_n (lv' := [(0, .int x0_9)]) hx hb dJ6_bitCount_0f7a4_9 rfl hl (by decide) rfl (fun ls hl => ?_)
  refine lv_iload_n hx hb dJ6_bitCount_0f7a4_10 rfl (lv_at hl 0 rfl) ?_
  refine lv_ldcw (v := 858993459) hx hb hown (F.1.2.2.2.2 _ kw_445) dJ6_bitCount_0f7a4_11 ?_
  refine lv_iand hx hb dJ6_bitCount_0f7a4_14 ?_
  refine lv_iload_n hx hb dJ6_bitCount_0f7a4_15 rfl (lv_at hl 0 rfl) ?_
  refine lv_iconst (v := 2) hx hb dJ6_bitCount_0f7a4_16 (by decide) ?_
  refine lv_iushr hx hb dJ6_bitCount_0f7a4_17 rfl ?_
  refine lv_ldcw (v := 858993459) hx hb hown (F.1.2.2.2.2 _ kw_445) dJ6_bitCount_0f7a4_18 ?_
  refine lv_iand hx hb dJ6_bitCount_0f7a4_21 ?_
  refine lv_iadd hx hb dJ6_bitCount_0f7a4_22 ?_
  refine lv_topi (fun x0_23 ex0_23 => ?_)
  replace hw := hw x0_23 ex0_23
  refine lv_istore_n (lv' := [(0, .int x0_23)]) hx hb dJ6_bitCount_0f7a4_23 rfl hl (by decide) rfl (fun ls hl => ?_)
  refine lv_iload_n hx hb dJ6_bitCount_0f7a4_24 rfl (lv_at hl 0 rfl) ?_
  refine lv_iload_n hx hb dJ6_bitCount_0f7a4_25 rfl (lv_at hl 0 rfl) ?_
  refine lv_iconst (v := 4) hx hb dJ6_bitCount_0f7a4_26 (by decide) ?_
  refine lv_iushr hx hb dJ6_bitCount_0f7a4_27 rfl ?_
  refine lv_iadd hx hb dJ6_bitCount_0f7a4_28 ?_
  refine lv_ldcw (v := 252645135) hx hb hown (F.1.2.2.2.2 _ kw_446) dJ6_bitCount_0f7a4_29 ?_
  refine lv_iand hx hb dJ6_bitCount_0f7a4_32 ?_
  refine lv_topi (fun x0_33 ex0_33 => ?_)
  replace hw := hw x0_33 ex0_33
  refine lv_istore_n (lv' := [(0, .int x0_33)]) hx hb dJ6_bitCount_0f7a4_33 rfl hl (by decide) rfl (fun ls hl => ?_)
  refine lv_iload_n hx hb dJ6_bitCount_0f7a4_34 rfl (lv_at hl 0 rfl) ?_
  refine lv_iload_n hx hb dJ6_bitCount_0f7a4_35 rfl (lv_at hl 0 rfl) ?_
  refine lv_bipush (v := 8) hx hb dJ6_bitCount_0f7a4_36 (by decide) ?_
  refine lv_iushr hx hb dJ6_bitCount_0f7a4_38 rfl ?_
  refine lv_iadd hx hb dJ6_bitCount_0f7a4_39 ?_
  refine lv_topi (fun x0_40 ex0_40 => ?_)
  replace hw := hw x0_40 ex0_40
  refine lv_istore_n (lv' := [(0, .int x0_40)]) hx hb dJ6_bitCount_0f7a4_40 rfl hl (by decide) rfl (fun ls hl => ?_)
  refine lv_iload_n hx hb dJ6_bitCount_0f7a4_41 rfl (lv_at hl 0 rfl) ?_
  refine lv_iload_n hx hb dJ6_bitCount_0f7a4_42 rfl (lv_at hl 0 rfl) ?_
  refine lv_bipush (v := 16) hx hb dJ6_bitCount_0f7a4_43 (by decide) ?_
  refine lv_iushr hx hb dJ6_bitCount_0f7a4_45 rfl ?_
  refine lv_iadd hx hb dJ6_bitCount_0f7a4_46 ?_
  refine lv_topi (fun x0_47 ex0_47 => ?_)
  replace hw := hw x0_47 ex0_47
  refine lv_istore_n (lv' := [(0, .int x0_47)]) hx hb dJ6_bitCount_0f7a4_47 rfl hl (by decide) rfl (fun ls hl => ?_)
  refine lv_iload_n hx hb dJ6_bitCount_0f7a4_48 rfl (lv_at hl 0 rfl) ?_
  refine lv_bipush (v := 63) hx hb dJ6_bitCount_0f7a4_49 (by decide) ?_
  refine lv_iand hx hb dJ6_bitCount_0f7a4_51 ?_
  exact W.iret (v := (x0_47 &&& 63)) hx hb hr (fun t ht hW => ⟨⟨(x0_47 &&& 63), (), rfl, hw, trivial⟩, hS.F ht⟩) hS.2.2 dJ6_bitCount_0f7a4_52
-- ===== PJ3_checkIndex
def wjPJ3_checkIndex_9 (p1 : Int32) (p2 : Int32) (Q : Int32 → pt_M → Prop)   (M : pt_M) : Prop :=
  False
def wpPJ3_checkIndex (p1 : Int32) (p2 : Int32) (M : pt_M) (Q : Int32 → pt_M → Prop) : Prop :=
  (p1 < 0 → wjPJ3_checkIndex_9 p1 p2 Q M) ∧ (¬ p1 < 0 → (p1 < p2 → Q p1 M) ∧ (¬ p1 < p2 → wjPJ3_checkIndex_9 p1 p2 Q M))
set_option maxHeartbeats 4000000 in
set_option maxRecDepth 100000 in
theorem mtPJ3_checkIndex (l : Launch) (D : va_G) (cA : Nat → ClassId) (p1 : Int32) (p2 : Int32) (M : pt_M) (Q : Int32 → pt_M → Prop) (hw : wpPJ3_checkIndex p1 p2 M Q) : Met l yJ3_checkIndex_8e157 (Cond.code yJ3_checkIndex_8e157 cJ3_checkIndex_8e157 3 (some .int) :: lw_all) ({ frames := 0, cells := 0, slots := 0, locals := 0 } : Room) (va_Pc [.int p1, .int p2, .null] (rt_PK D cA)) (va_Qi (fun r (_ : Unit) => Q r M) (fun _ _ => True) (fun _ => False)) 0 0 (fun _ => False) := by
  refine Met.ofW (cc := cJ3_checkIndex_8e157) (maxL := 3) (ret := (some .int)) (by decide) rfl ?_
  intro p e s m args below meth c s₁ B hml hv
  obtain ⟨rfl, hK⟩ := hv
  have hx := B.exec
  have hb := B.bytes
  have hr := B.returns
  have hts0 := atoms_spec (ws := (Cond.code yJ3_checkIndex_8e157 cJ3_checkIndex_8e157 3 (some .int) :: lw_all)) B.pre
  have hown : s.vm.findClass RJ3 = some m.cls := findClass_of_methodNamed B.named
  have hlocks := B.notSynchronized
  have F : pt_F p m c cJ3_checkIndex_8e157 3 s _ RJ3 D cA := ⟨⟨hx, hb, hml, hown, fun w h => hts0 w (List.mem_cons_of_mem _ h)⟩, hK⟩
  have hS : va_S (fun _ => False) s.heap s.heap [] := va_S.rf
  have hl := lv_entry ([.int p1, .int p2, .null]) (n := 3) (Nat.le_of_ble_eq_true rfl)
  rw [lg_entry_eq]
  generalize (lg_sl ([.int p1, .int p2, .null]) ++ List.replicate (3 - (lg_sl ([.int p1, .int p2, .null])).length) Slot.unset).toArray = ls at hl ⊢
  have hl : lv_has ls 3 [(0, .int p1), (1, .int p2), (2, .null)] := hl
  have J9 : ∀ (H : Heap) (locs : List Loc) (ls : Array Slot), wjPJ3_checkIndex_9 p1 p2 Q M → va_S (fun _ => False) s.heap H locs → lv_has ls 3 [] → W p l e (headSpec (Cond.code yJ3_checkIndex_8e157 cJ3_checkIndex_8e157 3 (some .int) :: lw_all) ({ frames := 0, cells := 0, slots := 0, locals := 0 } : Room)).room s m ([.int p1, .int p2, .null] : List Value).toArray below meth c H locs 0 0 (MQ below (va_Qi (fun r (_ : Unit) => Q r M) (fun _ _ => True) (fun _ => False)) ([.int p1, .int p2, .null] : List Value).toArray s 0 0 (fun _ => False)) (F0 m 9 ls []) := by
    intro H locs ls hw hS hl
    unfold wjPJ3_checkIndex_9 at hw
    exact hw.elim
  unfold wpPJ3_checkIndex at hw
  refine lv_iload_n hx hb dJ3_checkIndex_8e157_0 rfl (lv_at hl 0 rfl) ?_
  refine lv_if_lt (tgt := 9) hx hb dJ3_checkIndex_8e157_1 (by decide) (fun hc1 => ?_) (fun hc1 => ?_)
  · replace hw := hw.1 hc1
    exact J9 _ _ _ hw hS (lv_sub hl [] rfl)
  · replace hw := hw.2 hc1
    refine lv_iload_n hx hb dJ3_checkIndex_8e157_4 rfl (lv_at hl 0 rfl) ?_
    refine lv_iload_n hx hb dJ3_checkIndex_8e157_5 rfl (lv_at hl 1 rfl) ?_
    refine lv_icmp_lt (tgt := 16) hx hb dJ3_checkIndex_8e157_6 (by decide) (fun hc6 => ?_) (fun hc6 => ?_)
    · replace hw := hw.1 hc6
      refine lv_iload_n hx hb dJ3_checkIndex_8e157_16 rfl (lv_at hl 0 rfl) ?_
      exact W.iret (v := p1) hx hb hr (fun t ht hW => ⟨⟨p1, (), rfl, hw, trivial⟩, hS.F ht⟩) hS.2.2 dJ3_checkIndex_8e157_17
    · replace hw := hw.2 hc6
      exact J9 _ _ _ hw hS (lv_sub hl [] rfl)
-- ===== PJ15_checkIndex
def wpPJ15_checkIndex (p1 : Int32) (p2 : Int32) (M : pt_M) (Q : Int32 → pt_M → Prop) : Prop :=
  wpPJ3_checkIndex p1 p2 M (fun (r_3 : Int32) (_ : pt_M) => Q r_3 M)
set_option maxHeartbeats 4000000 in
set_option maxRecDepth 100000 in
theorem mtPJ15_checkIndex (l : Launch) (D : va_G) (cA : Nat → ClassId) (p1 : Int32) (p2 : Int32) (M : pt_M) (Q : Int32 → pt_M → Prop) (hw : wpPJ15_checkIndex p1 p2 M Q) : Met l yJ15_checkIndex_7cf53 (Cond.code yJ15_checkIndex_7cf53 cJ15_checkIndex_7cf53 2 (some .int) :: lw_all) ({ frames := 1, cells := 0, slots := 0, locals := 22 } : Room) (va_Pc [.int p1, .int p2] (rt_PK D cA)) (va_Qi (fun r (_ : Unit) => Q r M) (fun _ _ => True) (fun _ => False)) 0 0 (fun _ => False) := by
  refine Met.ofW (cc := cJ15_checkIndex_7cf53) (maxL := 2) (ret := (some .int)) (by decide) rfl ?_
  intro p e s m args below meth c s₁ B hml hv
  obtain ⟨rfl, hK⟩ := hv
  have hx := B.exec
  have hb := B.bytes
  have hr := B.returns
  have hts0 := atoms_spec (ws := (Cond.code yJ15_checkIndex_7cf53 cJ15_checkIndex_7cf53 2 (some .int) :: lw_all)) B.pre
  have hown : s.vm.findClass RJ15 = some m.cls := findClass_of_methodNamed B.named
  have hlocks := B.notSynchronized
  have F : pt_F p m c cJ15_checkIndex_7cf53 2 s _ RJ15 D cA := ⟨⟨hx, hb, hml, hown, fun w h => hts0 w (List.mem_cons_of_mem _ h)⟩, hK⟩
  have hS : va_S (fun _ => False) s.heap s.heap [] := va_S.rf
  have hl := lv_entry ([.int p1, .int p2]) (n := 2) (Nat.le_of_ble_eq_true rfl)
  rw [lg_entry_eq]
  generalize (lg_sl ([.int p1, .int p2]) ++ List.replicate (2 - (lg_sl ([.int p1, .int p2])).length) Slot.unset).toArray = ls at hl ⊢
  have hl : lv_has ls 2 [(0, .int p1), (1, .int p2)] := hl
  unfold wpPJ15_checkIndex at hw
  refine lv_iload_n hx hb dJ15_checkIndex_7cf53_0 rfl (lv_at hl 0 rfl) ?_
  refine lv_iload_n hx hb dJ15_checkIndex_7cf53_1 rfl (lv_at hl 1 rfl) ?_
  refine lv_null hx hb dJ15_checkIndex_7cf53_2 ?_
  refine rt_callq (pt_runP (n := 3) (As := [.int p1, .int p2, .null]) (rest := []) F (mtPJ3_checkIndex l D cA p1 p2 M _ hw) rt_kblind (fun U _ hW => va_K.moved hW.alike F.2) kw_1192 kw_1190 kw_78 kw_1191 ⟨by decide, by decide, by decide +kernel⟩ ⟨rfl, rfl, (Nat.le_of_ble_eq_true rfl), (Nat.le_of_ble_eq_true rfl)⟩ rfl hl.1 rfl (Nat.le_of_ble_eq_true rfl) dJ15_checkIndex_7cf53_3 ⟨Nat.zero_le _, Nat.zero_le _⟩) hS (fun r_3 H locs hw hS => ?_)
  exact W.iret (v := r_3) hx hb hr (fun t ht hW => ⟨⟨r_3, (), rfl, hw, trivial⟩, hS.F ht⟩) hS.2.2 dJ15_checkIndex_7cf53_6
-- ===== Jx4a65c_elementData_915e3
def wpJx4a65c_elementData_915e3 (p1 : Int32) (M : pt_M) (Q : pt_M → Prop) : Prop :=
  p1 = 0 ∧ (Q M)
set_option maxHeartbeats 4000000 in
set_option maxRecDepth 100000 in
theorem mtJx4a65c_elementData_915e3 (l : Launch) (D : va_G) (cA : Nat → ClassId) (ad : Nat → Nat) (hI : rt_I ad) (sz : Nat) (p1 : Int32) (M : pt_M) (Q : pt_M → Prop) (hw : wpJx4a65c_elementData_915e3 p1 M Q) : Met l yJx4a65c_elementData_915e3 (Cond.code yJx4a65c_elementData_915e3 cJx4a65c_elementData_915e3 2 (some (.object "java/lang/Object")) :: lw_all) ({ frames := 0, cells := 0, slots := 0, locals := 0 } : Room) (va_Pc [.ref (ad 2), .int p1] (rt_P D cA ad sz M)) (va_Qr Q (rt_BR D cA ad) (rt_fr ad sz)) 0 0 (rt_fr ad sz) := by
  refine Met.ofW (cc := cJx4a65c_elementData_915e3) (maxL := 2) (ret := (some (.object "java/lang/Object"))) (by decide) rfl ?_
  intro p e s m args below meth c s₁ B hml hv
  obtain ⟨rfl, hsz, hP, hK, hN⟩ := hv
  have hx := B.exec
  have hb := B.bytes
  have hr := B.returns
  have hts0 := atoms_spec (ws := (Cond.code yJx4a65c_elementData_915e3 cJx4a65c_elementData_915e3 2 (some (.object "java/lang/Object")) :: lw_all)) B.pre
  have hown : s.vm.findClass RJx4a65c = some m.cls := findClass_of_methodNamed B.named
  have hlocks := B.notSynchronized
  subst hsz
  have F : pt_F p m c cJx4a65c_elementData_915e3 2 s _ RJx4a65c D cA := ⟨⟨hx, hb, hml, hown, fun w h => hts0 w (List.mem_cons_of_mem _ h)⟩, hK⟩
  have hD : ∀ M, va_D (rt_fr ad s.heap.size) (rt_W cA ad M) := rt_D hI (fun k h => Or.inl ⟨k, h, rfl⟩)
  have hS : va_S (rt_fr ad s.heap.size) s.heap s.heap [] := va_S.rf
  have hl := lv_entry ([.ref (ad 2), .int p1]) (n := 2) (Nat.le_of_ble_eq_true rfl)
  rw [lg_entry_eq]
  generalize (lg_sl ([.ref (ad 2), .int p1]) ++ List.replicate (2 - (lg_sl ([.ref (ad 2), .int p1])).length) Slot.unset).toArray = ls at hl ⊢
  have hl : lv_has ls 2 [(0, .ref (ad 2)), (1, .int p1)] := hl
  unfold wpJx4a65c_elementData_915e3 at hw
  refine lv_aload_n hx hb dJx4a65c_elementData_915e3_0 rfl (lv_at hl 0 rfl) ?_
  refine rt_get F hP (rt_c13 _ rt_k2) (rt_l13 rt_k2) inX13 rfl 1 (by decide) kw_972 rfl rfl dJx4a65c_elementData_915e3_1 ?_
  refine lv_iload_n hx hb dJx4a65c_elementData_915e3_4 rfl (lv_at hl 1 rfl) ?_
  have hv5 := hw.1
  replace hw := hw.2
  refine rt_ald0 F hP hv5 dJx4a65c_elementData_915e3_5 ?_
  exact W.aret (v := .ref (ad 4)) hx hb hr (Or.inl ⟨_, rfl⟩) (Or.inr ⟨_, rfl⟩) (fun t ht hW => ⟨⟨M, ad 4, rfl, hw, rfl, by unfold rt_B; rw [ht]; exact hP⟩, hS.F ht⟩) hS.2.2 dJx4a65c_elementData_915e3_6
-- ===== Jx4a65c_get_915e3
def wpJx4a65c_get_915e3 (p1 : Int32) (M : pt_M) (Q : pt_M → Prop) : Prop :=
  wpPJ15_checkIndex p1 (M 2 2) M (fun (r_5 : Int32) (_ : pt_M) => wpJx4a65c_elementData_915e3 p1 M (fun (M_11 : pt_M) => Q M_11))
set_option maxHeartbeats 4000000 in
set_option maxRecDepth 100000 in
theorem mtJx4a65c_get_915e3 (l : Launch) (D : va_G) (cA : Nat → ClassId) (ad : Nat → Nat) (hI : rt_I ad) (sz : Nat) (p1 : Int32) (M : pt_M) (Q : pt_M → Prop) (hw : wpJx4a65c_get_915e3 p1 M Q) : Met l yJx4a65c_get_915e3 (Cond.code yJx4a65c_get_915e3 cJx4a65c_get_915e3 2 (some (.object "java/lang/Object")) :: lw_all) ({ frames := 2, cells := 0, slots := 0, locals := 43 } : Room) (va_Pc [.ref (ad 2), .int p1] (rt_P D cA ad sz M)) (va_Qr Q (rt_BR D cA ad) (rt_fr ad sz)) 0 0 (rt_fr ad sz) := by
  refine Met.ofW (cc := cJx4a65c_get_915e3) (maxL := 2) (ret := (some (.object "java/lang/Object"))) (by decide) rfl ?_
  intro p e s m args below meth c s₁ B hml hv
  obtain ⟨rfl, hsz, hP, hK, hN⟩ := hv
  have hx := B.exec
  have hb := B.bytes
  have hr := B.returns
  have hts0 := atoms_spec (ws := (Cond.code yJx4a65c_get_915e3 cJx4a65c_get_915e3 2 (some (.object "java/lang/Object")) :: lw_all)) B.pre
  have hown : s.vm.findClass RJx4a65c = some m.cls := findClass_of_methodNamed B.named
  have hlocks := B.notSynchronized
  subst hsz
  have F : pt_F p m c cJx4a65c_get_915e3 2 s _ RJx4a65c D cA := ⟨⟨hx, hb, hml, hown, fun w h => hts0 w (List.mem_cons_of_mem _ h)⟩, hK⟩
  have hD : ∀ M, va_D (rt_fr ad s.heap.size) (rt_W cA ad M) := rt_D hI (fun k h => Or.inl ⟨k, h, rfl⟩)
  have hS : va_S (rt_fr ad s.heap.size) s.heap s.heap [] := va_S.rf
  have hl := lv_entry ([.ref (ad 2), .int p1]) (n := 2) (Nat.le_of_ble_eq_true rfl)
  rw [lg_entry_eq]
  generalize (lg_sl ([.ref (ad 2), .int p1]) ++ List.replicate (2 - (lg_sl ([.ref (ad 2), .int p1])).length) Slot.unset).toArray = ls at hl ⊢
  have hl : lv_has ls 2 [(0, .ref (ad 2)), (1, .int p1)] := hl
  unfold wpJx4a65c_get_915e3 at hw
  refine lv_iload_n hx hb dJx4a65c_get_915e3_0 rfl (lv_at hl 1 rfl) ?_
  refine lv_aload_n hx hb dJx4a65c_get_915e3_1 rfl (lv_at hl 0 rfl) ?_
  refine rt_get F hP (rt_c13 _ rt_k2) (rt_l13 rt_k2) inX13 rfl 2 (by decide) kw_973 rfl rfl dJx4a65c_get_915e3_2 ?_
  refine rt_callp (pt_runP (n := 2) (As := [.int p1, .int (M 2 2)]) (rest := []) F (mtPJ15_checkIndex l D cA p1 (M 2 2) M _ hw) rt_kblind (fun U _ hW => va_K.moved hW.alike F.2) kw_1189 kw_1187 kw_77 kw_1188 ⟨by decide, by decide, by decide +kernel⟩ ⟨rfl, rfl, (Nat.le_of_ble_eq_true rfl), (Nat.le_of_ble_eq_true rfl)⟩ rfl hl.1 rfl (Nat.le_of_ble_eq_true rfl) dJx4a65c_get_915e3_5 ⟨Nat.zero_le _, Nat.zero_le _⟩) hP hS (fun r_5 H locs hw hP hS => ?_)
  refine lv_pop hx hb dJx4a65c_get_915e3_8 rfl ?_
  refine lv_aload_n hx hb dJx4a65c_get_915e3_9 rfl (lv_at hl 0 rfl) ?_
  refine lv_iload_n hx hb dJx4a65c_get_915e3_10 rfl (lv_at hl 1 rfl) ?_
  refine rt_call4 (rt_runV (n := 1) (As := [.int p1]) (rest := []) F hP hN hS (rt_frs hS.1) (rt_c13 _ rt_k2) (rt_l13 rt_k2) rfl (mtJx4a65c_elementData_915e3 l D cA ad hI _ p1 M _ hw) kw_1196 kw_1193 kw_64 kw_1194 kw_1195 ⟨by decide, by decide, by decide +kernel⟩ ⟨rfl, rfl, (Nat.le_of_ble_eq_true rfl), (Nat.le_of_ble_eq_true rfl)⟩ rfl hl.1 rfl (Nat.le_of_ble_eq_true rfl) dJx4a65c_get_915e3_11 ⟨Nat.zero_le _, Nat.zero_le _⟩) hS (fun _ h => h) (fun M_11 H locs hw hP hS _ _ => ?_)
  exact W.aret (v := .ref (ad 4)) hx hb hr (Or.inl ⟨_, rfl⟩) (Or.inr ⟨_, rfl⟩) (fun t ht hW => ⟨⟨M_11, ad 4, rfl, hw, rfl, by unfold rt_B; rw [ht]; exact hP⟩, hS.F ht⟩) hS.2.2 dJx4a65c_get_915e3_14
-- ===== Jx4a65c_size_8abf5
def wpJx4a65c_size_8abf5 (k0 : Nat) (M : pt_M) (Q : Int32 → pt_M → Prop) : Prop :=
  Q (M k0 2) M
set_option maxHeartbeats 4000000 in
set_option maxRecDepth 100000 in
theorem mtJx4a65c_size_8abf5 (l : Launch) (D : va_G) (cA : Nat → ClassId) (ad : Nat → Nat) (hI : rt_I ad) (sz : Nat) (k0 : Nat) (hk0 : rt_kd k0 = 13) (M : pt_M) (Q : Int32 → pt_M → Prop) (hw : wpJx4a65c_size_8abf5 k0 M Q) : Met l yJx4a65c_size_8abf5 (Cond.code yJx4a65c_size_8abf5 cJx4a65c_size_8abf5 1 (some .int) :: lw_all) ({ frames := 0, cells := 0, slots := 0, locals := 0 } : Room) (va_Pc [.ref (ad k0)] (rt_P D cA ad sz M)) (va_Qi Q (rt_B D cA ad) (rt_fr ad sz)) 0 0 (rt_fr ad sz) := by
  refine Met.ofW (cc := cJx4a65c_size_8abf5) (maxL := 1) (ret := (some .int)) (by decide) rfl ?_
  intro p e s m args below meth c s₁ B hml hv
  obtain ⟨rfl, hsz, hP, hK, hN⟩ := hv
  have hx := B.exec
  have hb := B.bytes
  have hr := B.returns
  have hts0 := atoms_spec (ws := (Cond.code yJx4a65c_size_8abf5 cJx4a65c_size_8abf5 1 (some .int) :: lw_all)) B.pre
  have hown : s.vm.findClass RJx4a65c = some m.cls := findClass_of_methodNamed B.named
  have hlocks := B.notSynchronized
  subst hsz
  have F : pt_F p m c cJx4a65c_size_8abf5 1 s _ RJx4a65c D cA := ⟨⟨hx, hb, hml, hown, fun w h => hts0 w (List.mem_cons_of_mem _ h)⟩, hK⟩
  have hD : ∀ M, va_D (rt_fr ad s.heap.size) (rt_W cA ad M) := rt_D hI (fun k h => Or.inl ⟨k, h, rfl⟩)
  have hS : va_S (rt_fr ad s.heap.size) s.heap s.heap [] := va_S.rf
  have hl := lv_entry ([.ref (ad k0)]) (n := 1) (Nat.le_of_ble_eq_true rfl)
  rw [lg_entry_eq]
  generalize (lg_sl ([.ref (ad k0)]) ++ List.replicate (1 - (lg_sl ([.ref (ad k0)])).length) Slot.unset).toArray = ls at hl ⊢
  have hl : lv_has ls 1 [(0, .ref (ad k0))] := hl
  unfold wpJx4a65c_size_8abf5 at hw
  refine lv_aload_n hx hb dJx4a65c_size_8abf5_0 rfl (lv_at hl 0 rfl) ?_
  refine rt_get F hP (rt_c13 _ hk0) (rt_l13 hk0) inX13 rfl 2 (by decide) kw_973 rfl rfl dJx4a65c_size_8abf5_1 ?_
  exact W.iret (v := (M k0 2)) hx hb hr (fun t ht hW => ⟨⟨(M k0 2), M, rfl, hw, by unfold rt_B; rw [ht]; exact hP⟩, hS.F ht⟩) hS.2.2 dJx4a65c_size_8abf5_4
-- ===== Jx4a65c_isEmpty_aae02
def wjJx4a65c_isEmpty_aae02_12 (k0 : Nat) (Q : Int32 → pt_M → Prop)  (xs0 : Int32) (M : pt_M) : Prop :=
  pt_zb xs0 ∧ Q xs0 M
def wpJx4a65c_isEmpty_aae02 (k0 : Nat) (M : pt_M) (Q : Int32 → pt_M → Prop) : Prop :=
  (¬ (M k0 2) = 0 → wjJx4a65c_isEmpty_aae02_12 k0 Q 0 M) ∧ ((M k0 2) = 0 → wjJx4a65c_isEmpty_aae02_12 k0 Q 1 M)
set_option maxHeartbeats 4000000 in
set_option maxRecDepth 100000 in
theorem mtJx4a65c_isEmpty_aae02 (l : Launch) (D : va_G) (cA : Nat → ClassId) (ad : Nat → Nat) (hI : rt_I ad) (sz : Nat) (k0 : Nat) (hk0 : rt_kd k0 = 13) (M : pt_M) (Q : Int32 → pt_M → Prop) (hw : wpJx4a65c_isEmpty_aae02 k0 M Q) : Met l yJx4a65c_isEmpty_aae02 (Cond.code yJx4a65c_isEmpty_aae02 cJx4a65c_isEmpty_aae02 1 (some .boolean) :: lw_all) ({ frames := 0, cells := 0, slots := 0, locals := 0 } : Room) (va_Pc [.ref (ad k0)] (rt_P D cA ad sz M)) (va_Qi Q (rt_B D cA ad) (rt_fr ad sz)) 0 0 (rt_fr ad sz) := by
  refine Met.ofW (cc := cJx4a65c_isEmpty_aae02) (maxL := 1) (ret := (some .boolean)) (by decide) rfl ?_
  intro p e s m args below meth c s₁ B hml hv
  obtain ⟨rfl, hsz, hP, hK, hN⟩ := hv
  have hx := B.exec
  have hb := B.bytes
  have hr := B.returns
  have hts0 := atoms_spec (ws := (Cond.code yJx4a65c_isEmpty_aae02 cJx4a65c_isEmpty_aae02 1 (some .boolean) :: lw_all)) B.pre
  have hown : s.vm.findClass RJx4a65c = some m.cls := findClass_of_methodNamed B.named
  have hlocks := B.notSynchronized
  subst hsz
  have F : pt_F p m c cJx4a65c_isEmpty_aae02 1 s _ RJx4a65c D cA := ⟨⟨hx, hb, hml, hown, fun w h => hts0 w (List.mem_cons_of_mem _ h)⟩, hK⟩
  have hD : ∀ M, va_D (rt_fr ad s.heap.size) (rt_W cA ad M) := rt_D hI (fun k h => Or.inl ⟨k, h, rfl⟩)
  have hS : va_S (rt_fr ad s.heap.size) s.heap s.heap [] := va_S.rf
  have hl := lv_entry ([.ref (ad k0)]) (n := 1) (Nat.le_of_ble_eq_true rfl)
  rw [lg_entry_eq]
  generalize (lg_sl ([.ref (ad k0)]) ++ List.replicate (1 - (lg_sl ([.ref (ad k0)])).length) Slot.unset).toArray = ls at hl ⊢
  have hl : lv_has ls 1 [(0, .ref (ad k0))] := hl
  have J12 : ∀ (xs0 : Int32) (M : pt_M) (H : Heap) (locs : List Loc) (ls : Array Slot), wjJx4a65c_isEmpty_aae02_12 k0 Q xs0 M → va_P D pt_cl (rt_W cA ad M) H → va_S (rt_fr ad s.heap.size) s.heap H locs → lv_has ls 1 [] → W p l e (headSpec (Cond.code yJx4a65c_isEmpty_aae02 cJx4a65c_isEmpty_aae02 1 (some .boolean) :: lw_all) ({ frames := 0, cells := 0, slots := 0, locals := 0 } : Room)).room s m ([.ref (ad k0)] : List Value).toArray below meth c H locs 0 0 (MQ below (va_Qi Q (rt_B D cA ad) (rt_fr ad s.heap.size)) ([.ref (ad k0)] : List Value).toArray s 0 0 (rt_fr ad s.heap.size)) (F0 m 12 ls [.int xs0]) := by
    intro xs0 M H locs ls hw hP hS hl
    unfold wjJx4a65c_isEmpty_aae02_12 at hw
    exact W.zret (v := xs0) (ty := .boolean) hx hb hr (pt_zb_n hw.1) (fun t ht hW => ⟨⟨xs0, M, rfl, hw.2, by unfold rt_B; rw [ht]; exact hP⟩, hS.F ht⟩) hS.2.2 dJx4a65c_isEmpty_aae02_12
  unfold wpJx4a65c_isEmpty_aae02 at hw
  refine lv_aload_n hx hb dJx4a65c_isEmpty_aae02_0 rfl (lv_at hl 0 rfl) ?_
  refine rt_get F hP (rt_c13 _ hk0) (rt_l13 hk0) inX13 rfl 2 (by decide) kw_973 rfl rfl dJx4a65c_isEmpty_aae02_1 ?_
  refine lv_if_ne (tgt := 11) hx hb dJx4a65c_isEmpty_aae02_4 (by decide) (fun hc4 => ?_) (fun hc4 => ?_)
  · replace hw := hw.1 hc4
    refine lv_iconst (v := 0) hx hb dJx4a65c_isEmpty_aae02_11 (by decide) ?_
    exact J12 0 M _ _ _ hw hP hS (lv_sub hl [] rfl)
  · replace hw := hw.2 hc4
    refine lv_iconst (v := 1) hx hb dJx4a65c_isEmpty_aae02_7 (by decide) ?_
    refine lv_goto (tgt := 12) hx hb dJx4a65c_isEmpty_aae02_8 (by decide) ?_
    exact J12 1 M _ _ _ hw hP hS (lv_sub hl [] rfl)
-- ===== Jx4a65c_clear_da8c8
def wpJx4a65c_clear_da8c8 (k0 : Nat) (M : pt_M) (Q : pt_M → Prop) : Prop :=
  ∀ M_7 : pt_M, M_7 = pt_st M k0 0 ((M k0 0) + 1) → ∀ x2_19 : Int32, x2_19 = (M_7 k0 2) → ∀ M_23 : pt_M, M_23 = pt_st M_7 k0 2 0 → (x2_19 ≤ 0 → Q M_23) ∧ (¬ x2_19 ≤ 0 → False)
set_option maxHeartbeats 4000000 in
set_option maxRecDepth 100000 in
theorem mtJx4a65c_clear_da8c8 (l : Launch) (D : va_G) (cA : Nat → ClassId) (ad : Nat → Nat) (hI : rt_I ad) (sz : Nat) (k0 : Nat) (hk0 : rt_kd k0 = 13) (M : pt_M) (Q : pt_M → Prop) (hw : wpJx4a65c_clear_da8c8 k0 M Q) : Met l yJx4a65c_clear_da8c8 (Cond.code yJx4a65c_clear_da8c8 cJx4a65c_clear_da8c8 4 none :: lw_all) ({ frames := 0, cells := 0, slots := 0, locals := 0 } : Room) (va_Pc [.ref (ad k0)] (rt_P D cA ad sz M)) (va_Qv Q (rt_B D cA ad) (rt_fr ad sz)) 0 0 (rt_fr ad sz) := by
  refine Met.ofW (cc := cJx4a65c_clear_da8c8) (maxL := 4) (ret := none) (by decide) rfl ?_
  intro p e s m args below meth c s₁ B hml hv
  obtain ⟨rfl, hsz, hP, hK, hN⟩ := hv
  have hx := B.exec
  have hb := B.bytes
  have hr := B.returns
  have hts0 := atoms_spec (ws := (Cond.code yJx4a65c_clear_da8c8 cJx4a65c_clear_da8c8 4 none :: lw_all)) B.pre
  have hown : s.vm.findClass RJx4a65c = some m.cls := findClass_of_methodNamed B.named
  have hlocks := B.notSynchronized
  subst hsz
  have F : pt_F p m c cJx4a65c_clear_da8c8 4 s _ RJx4a65c D cA := ⟨⟨hx, hb, hml, hown, fun w h => hts0 w (List.mem_cons_of_mem _ h)⟩, hK⟩
  have hD : ∀ M, va_D (rt_fr ad s.heap.size) (rt_W cA ad M) := rt_D hI (fun k h => Or.inl ⟨k, h, rfl⟩)
  have hS : va_S (rt_fr ad s.heap.size) s.heap s.heap [] := va_S.rf
  have hl := lv_entry ([.ref (ad k0)]) (n := 4) (Nat.le_of_ble_eq_true rfl)
  rw [lg_entry_eq]
  generalize (lg_sl ([.ref (ad k0)]) ++ List.replicate (4 - (lg_sl ([.ref (ad k0)])).length) Slot.unset).toArray = ls at hl ⊢
  have hl : lv_has ls 4 [(0, .ref (ad k0))] := hl
  unfold wpJx4a65c_clear_da8c8 at hw
  refine lv_aload_n hx hb dJx4a65c_clear_da8c8_0 rfl (lv_at hl 0 rfl) ?_
  refine lv_dup hx hb dJx4a65c_clear_da8c8_1 rfl ?_
  refine rt_getI F hP (rt_c13 _ hk0) (rt_l13 hk0) inX13 rfl 0 (by decide) kw_975 kw_976 rfl dJx4a65c_clear_da8c8_2 ?_
  refine lv_iconst (v := 1) hx hb dJx4a65c_clear_da8c8_5 (by decide) ?_
  refine lv_iadd hx hb dJx4a65c_clear_da8c8_6 ?_
  refine rt_putI F hP hD hS (rt_c13 _ hk0) (rt_l13 hk0) inX13 tyX13 tyX13_ok nmX13 rfl 0 (by decide) kw_975 kw_976 rfl rfl rfl (Nat.le_of_ble_eq_true rfl) (rt_c13 _ hk0) dJx4a65c_clear_da8c8_7 (fun M_7 H locs eM_7 hP hS => ?_)
  replace hw := hw M_7 eM_7
  refine lv_aload_n hx hb dJx4a65c_clear_da8c8_10 rfl (lv_at hl 0 rfl) ?_
  refine rt_get F hP (rt_c13 _ hk0) (rt_l13 hk0) inX13 rfl 1 (by decide) kw_972 rfl rfl dJx4a65c_clear_da8c8_11 ?_
  refine lv_astore_n (lv' := [(1, .ref (ad (rt_el k0))), (0, .ref (ad k0))]) hx hb dJx4a65c_clear_da8c8_14 rfl hl (by decide) rfl (fun ls hl => ?_)
  refine lv_aload_n hx hb dJx4a65c_clear_da8c8_15 rfl (lv_at hl 1 rfl) ?_
  refine rt_get F hP (rt_c13 _ hk0) (rt_l13 hk0) inX13 rfl 2 (by decide) kw_973 rfl rfl dJx4a65c_clear_da8c8_16 ?_
  refine lv_topi (fun x2_19 ex2_19 => ?_)
  replace hw := hw x2_19 ex2_19
  refine lv_istore_n (lv' := [(2, .int x2_19), (1, .ref (ad (rt_el k0))), (0, .ref (ad k0))]) hx hb dJx4a65c_clear_da8c8_19 rfl hl (by decide) rfl (fun ls hl => ?_)
  refine lv_aload_n hx hb dJx4a65c_clear_da8c8_20 rfl (lv_at hl 2 rfl) ?_
  refine lv_iconst (v := 0) hx hb dJx4a65c_clear_da8c8_21 (by decide) ?_
  refine lv_dup_x1 hx hb dJx4a65c_clear_da8c8_22 rfl rfl ?_
  refine rt_put F hP hD hS (rt_c13 _ hk0) (rt_l13 hk0) inX13 tyX13 tyX13_ok nmX13 rfl 2 (by decide) kw_973 rfl rfl rfl rfl (Nat.le_of_ble_eq_true rfl) (rt_c13 _ hk0) dJx4a65c_clear_da8c8_23 (fun M_23 H locs eM_23 hP hS => ?_)
  replace hw := hw M_23 eM_23
  refine lv_istore_n (lv' := [(3, .int 0), (2, .int x2_19), (1, .ref (ad (rt_el k0))), (0, .ref (ad k0))]) hx hb dJx4a65c_clear_da8c8_26 rfl hl (by decide) rfl (fun ls hl => ?_)
  refine lv_iload_n hx hb dJx4a65c_clear_da8c8_27 rfl (lv_at hl 0 rfl) ?_
  refine lv_iload_n hx hb dJx4a65c_clear_da8c8_28 rfl (lv_at hl 1 rfl) ?_
  refine lv_icmp_ge (tgt := 42) hx hb dJx4a65c_clear_da8c8_29 (by decide) (fun hc29 => ?_) (fun hc29 => ?_)
  · replace hw := hw.1 hc29
    exact W.vret hx hb hr (fun t ht hW => ⟨⟨M_23, rfl, hw, by unfold rt_B; rw [ht]; exact hP⟩, hS.F ht⟩) hS.2.2 dJx4a65c_clear_da8c8_42
  · replace hw := hw.2 hc29
    refine lv_aload_n hx hb dJx4a65c_clear_da8c8_32 rfl (lv_at hl 2 rfl) ?_
    refine lv_iload_n hx hb dJx4a65c_clear_da8c8_33 rfl (lv_at hl 0 rfl) ?_
    refine lv_null hx hb dJx4a65c_clear_da8c8_34 ?_
    exact hw.elim
-- ===== X12_has
def wjX12_has_14 (p1 : Int32) (p2 : Int32) (Q : Int32 → pt_M → Prop)  (xs0 : Int32) (M : pt_M) : Prop :=
  pt_zb xs0 ∧ Q xs0 M
def wpX12_has (p1 : Int32) (p2 : Int32) (M : pt_M) (Q : Int32 → pt_M → Prop) : Prop :=
  (¬ ((p1 >>> (p2 &&& 31)) &&& 1) = 1 → wjX12_has_14 p1 p2 Q 0 M) ∧ (((p1 >>> (p2 &&& 31)) &&& 1) = 1 → wjX12_has_14 p1 p2 Q 1 M)
set_option maxHeartbeats 4000000 in
set_option maxRecDepth 100000 in
theorem mtX12_has (l : Launch) (D : va_G) (cA : Nat → ClassId) (ad : Nat → Nat) (hI : rt_I ad) (sz : Nat) (p1 : Int32) (p2 : Int32) (M : pt_M) (Q : Int32 → pt_M → Prop) (hw : wpX12_has p1 p2 M Q) : Met l yX12_has (Cond.code yX12_has cX12_has 2 (some .boolean) :: lw_all) ({ frames := 0, cells := 0, slots := 0, locals := 0 } : Room) (va_Pc [.int p1, .int p2] (rt_P D cA ad sz M)) (va_Qi Q (rt_B D cA ad) (rt_fr ad sz)) 0 0 (rt_fr ad sz) := by
  refine Met.ofW (cc := cX12_has) (maxL := 2) (ret := (some .boolean)) (by decide) rfl ?_
  intro p e s m args below meth c s₁ B hml hv
  obtain ⟨rfl, hsz, hP, hK, hN⟩ := hv
  have hx := B.exec
  have hb := B.bytes
  have hr := B.returns
  have hts0 := atoms_spec (ws := (Cond.code yX12_has cX12_has 2 (some .boolean) :: lw_all)) B.pre
  have hown : s.vm.findClass RX12 = some m.cls := findClass_of_methodNamed B.named
  have hlocks := B.notSynchronized
  subst hsz
  have F : pt_F p m c cX12_has 2 s _ RX12 D cA := ⟨⟨hx, hb, hml, hown, fun w h => hts0 w (List.mem_cons_of_mem _ h)⟩, hK⟩
  have hD : ∀ M, va_D (rt_fr ad s.heap.size) (rt_W cA ad M) := rt_D hI (fun k h => Or.inl ⟨k, h, rfl⟩)
  have hS : va_S (rt_fr ad s.heap.size) s.heap s.heap [] := va_S.rf
  have hl := lv_entry ([.int p1, .int p2]) (n := 2) (Nat.le_of_ble_eq_true rfl)
  rw [lg_entry_eq]
  generalize (lg_sl ([.int p1, .int p2]) ++ List.replicate (2 - (lg_sl ([.int p1, .int p2])).length) Slot.unset).toArray = ls at hl ⊢
  have hl : lv_has ls 2 [(0, .int p1), (1, .int p2)] := hl
  have J14 : ∀ (xs0 : Int32) (M : pt_M) (H : Heap) (locs : List Loc) (ls : Array Slot), wjX12_has_14 p1 p2 Q xs0 M → va_P D pt_cl (rt_W cA ad M) H → va_S (rt_fr ad s.heap.size) s.heap H locs → lv_has ls 2 [] → W p l e (headSpec (Cond.code yX12_has cX12_has 2 (some .boolean) :: lw_all) ({ frames := 0, cells := 0, slots := 0, locals := 0 } : Room)).room s m ([.int p1, .int p2] : List Value).toArray below meth c H locs 0 0 (MQ below (va_Qi Q (rt_B D cA ad) (rt_fr ad s.heap.size)) ([.int p1, .int p2] : List Value).toArray s 0 0 (rt_fr ad s.heap.size)) (F0 m 14 ls [.int xs0]) := by
    intro xs0 M H locs ls hw hP hS hl
    unfold wjX12_has_14 at hw
    exact W.zret (v := xs0) (ty := .boolean) hx hb hr (pt_zb_n hw.1) (fun t ht hW => ⟨⟨xs0, M, rfl, hw.2, by unfold rt_B; rw [ht]; exact hP⟩, hS.F ht⟩) hS.2.2 dX12_has_14
  unfold wpX12_has at hw
  refine lv_iload_n hx hb dX12_has_0 rfl (lv_at hl 0 rfl) ?_
  refine lv_iload_n hx hb dX12_has_1 rfl (lv_at hl 1 rfl) ?_
  refine lv_ishr hx hb dX12_has_2 ?_
  refine lv_iconst (v := 1) hx hb dX12_has_3 (by decide) ?_
  refine lv_iand hx hb dX12_has_4 ?_
  refine lv_iconst (v := 1) hx hb dX12_has_5 (by decide) ?_
  refine lv_icmp_ne (tgt := 13) hx hb dX12_has_6 (by decide) (fun hc6 => ?_) (fun hc6 => ?_)
  · replace hw := hw.1 hc6
    refine lv_iconst (v := 0) hx hb dX12_has_13 (by decide) ?_
    exact J14 0 M _ _ _ hw hP hS (lv_sub hl [] rfl)
  · replace hw := hw.2 hc6
    refine lv_iconst (v := 1) hx hb dX12_has_9 (by decide) ?_
    refine lv_goto (tgt := 14) hx hb dX12_has_10 (by decide) ?_
    exact J14 1 M _ _ _ hw hP hS (lv_sub hl [] rfl)
-- ===== X12_isIn
def wjX12_isIn_15 (p1 : Int32) (p2 : Int32) (p3 : Int32) (Q : Int32 → pt_M → Prop)  (xs0 : Int32) (M : pt_M) : Prop :=
  pt_zb xs0 ∧ Q xs0 M
def wjX12_isIn_14 (p1 : Int32) (p2 : Int32) (p3 : Int32) (Q : Int32 → pt_M → Prop)   (M : pt_M) : Prop :=
  wjX12_isIn_15 p1 p2 p3 Q 0 M
def wpX12_isIn (p1 : Int32) (p2 : Int32) (p3 : Int32) (M : pt_M) (Q : Int32 → pt_M → Prop) : Prop :=
  (p1 < p2 → wjX12_isIn_14 p1 p2 p3 Q M) ∧ (¬ p1 < p2 → (p3 < p1 → wjX12_isIn_14 p1 p2 p3 Q M) ∧ (¬ p3 < p1 → wjX12_isIn_15 p1 p2 p3 Q 1 M))
set_option maxHeartbeats 4000000 in
set_option maxRecDepth 100000 in
theorem mtX12_isIn (l : Launch) (D : va_G) (cA : Nat → ClassId) (ad : Nat → Nat) (hI : rt_I ad) (sz : Nat) (p1 : Int32) (p2 : Int32) (p3 : Int32) (M : pt_M) (Q : Int32 → pt_M → Prop) (hw : wpX12_isIn p1 p2 p3 M Q) : Met l yX12_isIn (Cond.code yX12_isIn cX12_isIn 3 (some .boolean) :: lw_all) ({ frames := 0, cells := 0, slots := 0, locals := 0 } : Room) (va_Pc [.int p1, .int p2, .int p3] (rt_P D cA ad sz M)) (va_Qi Q (rt_B D cA ad) (rt_fr ad sz)) 0 0 (rt_fr ad sz) := by
  refine Met.ofW (cc := cX12_isIn) (maxL := 3) (ret := (some .boolean)) (by decide) rfl ?_
  intro p e s m args below meth c s₁ B hml hv
  obtain ⟨rfl, hsz, hP, hK, hN⟩ := hv
  have hx := B.exec
  have hb := B.bytes
  have hr := B.returns
  have hts0 := atoms_spec (ws := (Cond.code yX12_isIn cX12_isIn 3 (some .boolean) :: lw_all)) B.pre
  have hown : s.vm.findClass RX12 = some m.cls := findClass_of_methodNamed B.named
  have hlocks := B.notSynchronized
  subst hsz
  have F : pt_F p m c cX12_isIn 3 s _ RX12 D cA := ⟨⟨hx, hb, hml, hown, fun w h => hts0 w (List.mem_cons_of_mem _ h)⟩, hK⟩
  have hD : ∀ M, va_D (rt_fr ad s.heap.size) (rt_W cA ad M) := rt_D hI (fun k h => Or.inl ⟨k, h, rfl⟩)
  have hS : va_S (rt_fr ad s.heap.size) s.heap s.heap [] := va_S.rf
  have hl := lv_entry ([.int p1, .int p2, .int p3]) (n := 3) (Nat.le_of_ble_eq_true rfl)
  rw [lg_entry_eq]
  generalize (lg_sl ([.int p1, .int p2, .int p3]) ++ List.replicate (3 - (lg_sl ([.int p1, .int p2, .int p3])).length) Slot.unset).toArray = ls at hl ⊢
  have hl : lv_has ls 3 [(0, .int p1), (1, .int p2), (2, .int p3)] := hl
  have J15 : ∀ (xs0 : Int32) (M : pt_M) (H : Heap) (locs : List Loc) (ls : Array Slot), wjX12_isIn_15 p1 p2 p3 Q xs0 M → va_P D pt_cl (rt_W cA ad M) H → va_S (rt_fr ad s.heap.size) s.heap H locs → lv_has ls 3 [] → W p l e (headSpec (Cond.code yX12_isIn cX12_isIn 3 (some .boolean) :: lw_all) ({ frames := 0, cells := 0, slots := 0, locals := 0 } : Room)).room s m ([.int p1, .int p2, .int p3] : List Value).toArray below meth c H locs 0 0 (MQ below (va_Qi Q (rt_B D cA ad) (rt_fr ad s.heap.size)) ([.int p1, .int p2, .int p3] : List Value).toArray s 0 0 (rt_fr ad s.heap.size)) (F0 m 15 ls [.int xs0]) := by
    intro xs0 M H locs ls hw hP hS hl
    unfold wjX12_isIn_15 at hw
    exact W.zret (v := xs0) (ty := .boolean) hx hb hr (pt_zb_n hw.1) (fun t ht hW => ⟨⟨xs0, M, rfl, hw.2, by unfold rt_B; rw [ht]; exact hP⟩, hS.F ht⟩) hS.2.2 dX12_isIn_15
  have J14 : ∀ (M : pt_M) (H : Heap) (locs : List Loc) (ls : Array Slot), wjX12_isIn_14 p1 p2 p3 Q M → va_P D pt_cl (rt_W cA ad M) H → va_S (rt_fr ad s.heap.size) s.heap H locs → lv_has ls 3 [] → W p l e (headSpec (Cond.code yX12_isIn cX12_isIn 3 (some .boolean) :: lw_all) ({ frames := 0, cells := 0, slots := 0, locals := 0 } : Room)).room s m ([.int p1, .int p2, .int p3] : List Value).toArray below meth c H locs 0 0 (MQ below (va_Qi Q (rt_B D cA ad) (rt_fr ad s.heap.size)) ([.int p1, .int p2, .int p3] : List Value).toArray s 0 0 (rt_fr ad s.heap.size)) (F0 m 14 ls []) := by
    intro M H locs ls hw hP hS hl
    unfold wjX12_isIn_14 at hw
    refine lv_iconst (v := 0) hx hb dX12_isIn_14 (by decide) ?_
    exact J15 0 M _ _ _ hw hP hS (lv_sub hl [] rfl)
  unfold wpX12_isIn at hw
  refine lv_iload_n hx hb dX12_isIn_0 rfl (lv_at hl 0 rfl) ?_
  refine lv_iload_n hx hb dX12_isIn_1 rfl (lv_at hl 1 rfl) ?_
  refine lv_icmp_lt (tgt := 14) hx hb dX12_isIn_2 (by decide) (fun hc2 => ?_) (fun hc2 => ?_)
  · replace hw := hw.1 hc2
    exact J14 M _ _ _ hw hP hS (lv_sub hl [] rfl)
  · replace hw := hw.2 hc2
    refine lv_iload_n hx hb dX12_isIn_5 rfl (lv_at hl 0 rfl) ?_
    refine lv_iload_n hx hb dX12_isIn_6 rfl (lv_at hl 2 rfl) ?_
    refine lv_icmp_gt (tgt := 14) hx hb dX12_isIn_7 (by decide) (fun hc7 => ?_) (fun hc7 => ?_)
    · replace hw := hw.1 hc7
      exact J14 M _ _ _ hw hP hS (lv_sub hl [] rfl)
    · replace hw := hw.2 hc7
      refine lv_iconst (v := 1) hx hb dX12_isIn_10 (by decide) ?_
      refine lv_goto (tgt := 15) hx hb dX12_isIn_11 (by decide) ?_
      exact J15 1 M _ _ _ hw hP hS (lv_sub hl [] rfl)
-- ===== X10_isMark
def wjX10_isMark_13  (Q : Int32 → pt_M → Prop)  (xs0 : Int32) (M : pt_M) : Prop :=
  pt_zb xs0 ∧ Q xs0 M
def wpX10_isMark  (M : pt_M) (Q : Int32 → pt_M → Prop) : Prop :=
  ((M 4 1) < 3 → wjX10_isMark_13 Q 0 M) ∧ (¬ (M 4 1) < 3 → wjX10_isMark_13 Q 1 M)
set_option maxHeartbeats 4000000 in
set_option maxRecDepth 100000 in
theorem mtX10_isMark (l : Launch) (D : va_G) (cA : Nat → ClassId) (ad : Nat → Nat) (hI : rt_I ad) (sz : Nat) (M : pt_M) (Q : Int32 → pt_M → Prop) (hw : wpX10_isMark M Q) : Met l yX10_isMark (Cond.code yX10_isMark cX10_isMark 1 (some .boolean) :: lw_all) ({ frames := 0, cells := 0, slots := 0, locals := 0 } : Room) (va_Pc [.ref (ad 4)] (rt_P D cA ad sz M)) (va_Qi Q (rt_B D cA ad) (rt_fr ad sz)) 0 0 (rt_fr ad sz) := by
  refine Met.ofW (cc := cX10_isMark) (maxL := 1) (ret := (some .boolean)) (by decide) rfl ?_
  intro p e s m args below meth c s₁ B hml hv
  obtain ⟨rfl, hsz, hP, hK, hN⟩ := hv
  have hx := B.exec
  have hb := B.bytes
  have hr := B.returns
  have hts0 := atoms_spec (ws := (Cond.code yX10_isMark cX10_isMark 1 (some .boolean) :: lw_all)) B.pre
  have hown : s.vm.findClass RX10 = some m.cls := findClass_of_methodNamed B.named
  have hlocks := B.notSynchronized
  subst hsz
  have F : pt_F p m c cX10_isMark 1 s _ RX10 D cA := ⟨⟨hx, hb, hml, hown, fun w h => hts0 w (List.mem_cons_of_mem _ h)⟩, hK⟩
  have hD : ∀ M, va_D (rt_fr ad s.heap.size) (rt_W cA ad M) := rt_D hI (fun k h => Or.inl ⟨k, h, rfl⟩)
  have hS : va_S (rt_fr ad s.heap.size) s.heap s.heap [] := va_S.rf
  have hl := lv_entry ([.ref (ad 4)]) (n := 1) (Nat.le_of_ble_eq_true rfl)
  rw [lg_entry_eq]
  generalize (lg_sl ([.ref (ad 4)]) ++ List.replicate (1 - (lg_sl ([.ref (ad 4)])).length) Slot.unset).toArray = ls at hl ⊢
  have hl : lv_has ls 1 [(0, .ref (ad 4))] := hl
  have J13 : ∀ (xs0 : Int32) (M : pt_M) (H : Heap) (locs : List Loc) (ls : Array Slot), wjX10_isMark_13 Q xs0 M → va_P D pt_cl (rt_W cA ad M) H → va_S (rt_fr ad s.heap.size) s.heap H locs → lv_has ls 1 [] → W p l e (headSpec (Cond.code yX10_isMark cX10_isMark 1 (some .boolean) :: lw_all) ({ frames := 0, cells := 0, slots := 0, locals := 0 } : Room)).room s m ([.ref (ad 4)] : List Value).toArray below meth c H locs 0 0 (MQ below (va_Qi Q (rt_B D cA ad) (rt_fr ad s.heap.size)) ([.ref (ad 4)] : List Value).toArray s 0 0 (rt_fr ad s.heap.size)) (F0 m 13 ls [.int xs0]) := by
    intro xs0 M H locs ls hw hP hS hl
    unfold wjX10_isMark_13 at hw
    exact W.zret (v := xs0) (ty := .boolean) hx hb hr (pt_zb_n hw.1) (fun t ht hW => ⟨⟨xs0, M, rfl, hw.2, by unfold rt_B; rw [ht]; exact hP⟩, hS.F ht⟩) hS.2.2 dX10_isMark_13
  unfold wpX10_isMark at hw
  refine lv_aload_n hx hb dX10_isMark_0 rfl (lv_at hl 0 rfl) ?_
  refine rt_get F hP (rt_c10 _ rt_k4) (rt_l10 rt_k4) inX10 rfl 1 (by decide) kw_1057 rfl rfl dX10_isMark_1 ?_
  refine lv_iconst (v := 3) hx hb dX10_isMark_4 (by decide) ?_
  refine lv_icmp_lt (tgt := 12) hx hb dX10_isMark_5 (by decide) (fun hc5 => ?_) (fun hc5 => ?_)
  · replace hw := hw.1 hc5
    refine lv_iconst (v := 0) hx hb dX10_isMark_12 (by decide) ?_
    exact J13 0 M _ _ _ hw hP hS (lv_sub hl [] rfl)
  · replace hw := hw.2 hc5
    refine lv_iconst (v := 1) hx hb dX10_isMark_8 (by decide) ?_
    refine lv_goto (tgt := 13) hx hb dX10_isMark_9 (by decide) ?_
    exact J13 1 M _ _ _ hw hP hS (lv_sub hl [] rfl)
-- ===== X10_isOpen
def wjX10_isOpen_20  (Q : Int32 → pt_M → Prop)  (xs0 : Int32) (M : pt_M) : Prop :=
  pt_zb xs0 ∧ Q xs0 M
def wjX10_isOpen_15  (Q : Int32 → pt_M → Prop)   (M : pt_M) : Prop :=
  wjX10_isOpen_20 Q 1 M
def wpX10_isOpen  (M : pt_M) (Q : Int32 → pt_M → Prop) : Prop :=
  ((M 4 1) = 0 → wjX10_isOpen_15 Q M) ∧ (¬ (M 4 1) = 0 → (¬ (M 4 1) = 1 → wjX10_isOpen_20 Q 0 M) ∧ ((M 4 1) = 1 → wjX10_isOpen_15 Q M))
set_option maxHeartbeats 4000000 in
set_option maxRecDepth 100000 in
theorem mtX10_isOpen (l : Launch) (D : va_G) (cA : Nat → ClassId) (ad : Nat → Nat) (hI : rt_I ad) (sz : Nat) (M : pt_M) (Q : Int32 → pt_M → Prop) (hw : wpX10_isOpen M Q) : Met l yX10_isOpen (Cond.code yX10_isOpen cX10_isOpen 1 (some .boolean) :: lw_all) ({ frames := 0, cells := 0, slots := 0, locals := 0 } : Room) (va_Pc [.ref (ad 4)] (rt_P D cA ad sz M)) (va_Qi Q (rt_B D cA ad) (rt_fr ad sz)) 0 0 (rt_fr ad sz) := by
  refine Met.ofW (cc := cX10_isOpen) (maxL := 1) (ret := (some .boolean)) (by decide) rfl ?_
  intro p e s m args below meth c s₁ B hml hv
  obtain ⟨rfl, hsz, hP, hK, hN⟩ := hv
  have hx := B.exec
  have hb := B.bytes
  have hr := B.returns
  have hts0 := atoms_spec (ws := (Cond.code yX10_isOpen cX10_isOpen 1 (some .boolean) :: lw_all)) B.pre
  have hown : s.vm.findClass RX10 = some m.cls := findClass_of_methodNamed B.named
  have hlocks := B.notSynchronized
  subst hsz
  have F : pt_F p m c cX10_isOpen 1 s _ RX10 D cA := ⟨⟨hx, hb, hml, hown, fun w h => hts0 w (List.mem_cons_of_mem _ h)⟩, hK⟩
  have hD : ∀ M, va_D (rt_fr ad s.heap.size) (rt_W cA ad M) := rt_D hI (fun k h => Or.inl ⟨k, h, rfl⟩)
  have hS : va_S (rt_fr ad s.heap.size) s.heap s.heap [] := va_S.rf
  have hl := lv_entry ([.ref (ad 4)]) (n := 1) (Nat.le_of_ble_eq_true rfl)
  rw [lg_entry_eq]
  generalize (lg_sl ([.ref (ad 4)]) ++ List.replicate (1 - (lg_sl ([.ref (ad 4)])).length) Slot.unset).toArray = ls at hl ⊢
  have hl : lv_has ls 1 [(0, .ref (ad 4))] := hl
  have J20 : ∀ (xs0 : Int32) (M : pt_M) (H : Heap) (locs : List Loc) (ls : Array Slot), wjX10_isOpen_20 Q xs0 M → va_P D pt_cl (rt_W cA ad M) H → va_S (rt_fr ad s.heap.size) s.heap H locs → lv_has ls 1 [] → W p l e (headSpec (Cond.code yX10_isOpen cX10_isOpen 1 (some .boolean) :: lw_all) ({ frames := 0, cells := 0, slots := 0, locals := 0 } : Room)).room s m ([.ref (ad 4)] : List Value).toArray below meth c H locs 0 0 (MQ below (va_Qi Q (rt_B D cA ad) (rt_fr ad s.heap.size)) ([.ref (ad 4)] : List Value).toArray s 0 0 (rt_fr ad s.heap.size)) (F0 m 20 ls [.int xs0]) := by
    intro xs0 M H locs ls hw hP hS hl
    unfold wjX10_isOpen_20 at hw
    exact W.zret (v := xs0) (ty := .boolean) hx hb hr (pt_zb_n hw.1) (fun t ht hW => ⟨⟨xs0, M, rfl, hw.2, by unfold rt_B; rw [ht]; exact hP⟩, hS.F ht⟩) hS.2.2 dX10_isOpen_20
  have J15 : ∀ (M : pt_M) (H : Heap) (locs : List Loc) (ls : Array Slot), wjX10_isOpen_15 Q M → va_P D pt_cl (rt_W cA ad M) H → va_S (rt_fr ad s.heap.size) s.heap H locs → lv_has ls 1 [] → W p l e (headSpec (Cond.code yX10_isOpen cX10_isOpen 1 (some .boolean) :: lw_all) ({ frames := 0, cells := 0, slots := 0, locals := 0 } : Room)).room s m ([.ref (ad 4)] : List Value).toArray below meth c H locs 0 0 (MQ below (va_Qi Q (rt_B D cA ad) (rt_fr ad s.heap.size)) ([.ref (ad 4)] : List Value).toArray s 0 0 (rt_fr ad s.heap.size)) (F0 m 15 ls []) := by
    intro M H locs ls hw hP hS hl
    unfold wjX10_isOpen_15 at hw
    refine lv_iconst (v := 1) hx hb dX10_isOpen_15 (by decide) ?_
    refine lv_goto (tgt := 20) hx hb dX10_isOpen_16 (by decide) ?_
    exact J20 1 M _ _ _ hw hP hS (lv_sub hl [] rfl)
  unfold wpX10_isOpen at hw
  refine lv_aload_n hx hb dX10_isOpen_0 rfl (lv_at hl 0 rfl) ?_
  refine rt_get F hP (rt_c10 _ rt_k4) (rt_l10 rt_k4) inX10 rfl 1 (by decide) kw_1057 rfl rfl dX10_isOpen_1 ?_
  refine lv_if_eq (tgt := 15) hx hb dX10_isOpen_4 (by decide) (fun hc4 => ?_) (fun hc4 => ?_)
  · replace hw := hw.1 hc4
    exact J15 M _ _ _ hw hP hS (lv_sub hl [] rfl)
  · replace hw := hw.2 hc4
    refine lv_aload_n hx hb dX10_isOpen_7 rfl (lv_at hl 0 rfl) ?_
    refine rt_get F hP (rt_c10 _ rt_k4) (rt_l10 rt_k4) inX10 rfl 1 (by decide) kw_1057 rfl rfl dX10_isOpen_8 ?_
    refine lv_iconst (v := 1) hx hb dX10_isOpen_11 (by decide) ?_
    refine lv_icmp_ne (tgt := 19) hx hb dX10_isOpen_12 (by decide) (fun hc12 => ?_) (fun hc12 => ?_)
    · replace hw := hw.1 hc12
      refine lv_iconst (v := 0) hx hb dX10_isOpen_19 (by decide) ?_
      exact J20 0 M _ _ _ hw hP hS (lv_sub hl [] rfl)
    · replace hw := hw.2 hc12
      exact J15 M _ _ _ hw hP hS (lv_sub hl [] rfl)
-- ===== X8_parent
def wpX8_parent (p1 : Int32) (M : pt_M) (Q : Int32 → pt_M → Prop) : Prop :=
  wpJx4a65c_get_915e3 p1 M (fun (M_5 : pt_M) => Q (M_5 4 0) M_5)
set_option maxHeartbeats 4000000 in
set_option maxRecDepth 100000 in
theorem mtX8_parent (l : Launch) (D : va_G) (cA : Nat → ClassId) (ad : Nat → Nat) (hI : rt_I ad) (sz : Nat) (p1 : Int32) (M : pt_M) (Q : Int32 → pt_M → Prop) (hw : wpX8_parent p1 M Q) : Met l yX8_parent (Cond.code yX8_parent cX8_parent 2 (some .int) :: lw_all) ({ frames := 3, cells := 0, slots := 0, locals := 64 } : Room) (va_Pc [.ref (ad 1), .int p1] (rt_P D cA ad sz M)) (va_Qi Q (rt_B D cA ad) (rt_fr ad sz)) 0 0 (rt_fr ad sz) := by
  refine Met.ofW (cc := cX8_parent) (maxL := 2) (ret := (some .int)) (by decide) rfl ?_
  intro p e s m args below meth c s₁ B hml hv
  obtain ⟨rfl, hsz, hP, hK, hN⟩ := hv
  have hx := B.exec
  have hb := B.bytes
  have hr := B.returns
  have hts0 := atoms_spec (ws := (Cond.code yX8_parent cX8_parent 2 (some .int) :: lw_all)) B.pre
  have hown : s.vm.findClass RX8 = some m.cls := findClass_of_methodNamed B.named
  have hlocks := B.notSynchronized
  subst hsz
  have F : pt_F p m c cX8_parent 2 s _ RX8 D cA := ⟨⟨hx, hb, hml, hown, fun w h => hts0 w (List.mem_cons_of_mem _ h)⟩, hK⟩
  have hD : ∀ M, va_D (rt_fr ad s.heap.size) (rt_W cA ad M) := rt_D hI (fun k h => Or.inl ⟨k, h, rfl⟩)
  have hS : va_S (rt_fr ad s.heap.size) s.heap s.heap [] := va_S.rf
  have hl := lv_entry ([.ref (ad 1), .int p1]) (n := 2) (Nat.le_of_ble_eq_true rfl)
  rw [lg_entry_eq]
  generalize (lg_sl ([.ref (ad 1), .int p1]) ++ List.replicate (2 - (lg_sl ([.ref (ad 1), .int p1])).length) Slot.unset).toArray = ls at hl ⊢
  have hl : lv_has ls 2 [(0, .ref (ad 1)), (1, .int p1)] := hl
  unfold wpX8_parent at hw
  refine lv_aload_n hx hb dX8_parent_0 rfl (lv_at hl 0 rfl) ?_
  refine rt_get F hP (rt_c8 _ rt_k1) (rt_l8 rt_k1) inX8 rfl 0 (by decide) kw_984 rfl rfl dX8_parent_1 ?_
  refine lv_iload_n hx hb dX8_parent_4 rfl (lv_at hl 1 rfl) ?_
  refine rt_call4 (rt_runV (n := 1) (As := [.int p1]) (rest := []) F hP hN hS (rt_frs hS.1) (rt_c13 _ rt_k2) (rt_l13 rt_k2) rfl (mtJx4a65c_get_915e3 l D cA ad hI _ p1 M _ hw) kw_1186 kw_1205 kw_64 kw_1184 kw_1185 ⟨by decide, by decide, by decide +kernel⟩ ⟨rfl, rfl, (Nat.le_of_ble_eq_true rfl), (Nat.le_of_ble_eq_true rfl)⟩ rfl hl.1 rfl (Nat.le_of_ble_eq_true rfl) dX8_parent_5 ⟨Nat.zero_le _, Nat.zero_le _⟩) hS (fun _ h => h) (fun M_5 H locs hw hP hS _ _ => ?_)
  refine rt_cast4 F hP kw_1206 dX8_parent_8 ?_
  refine rt_get F hP (rt_c10 _ rt_k4) (rt_l10 rt_k4) inX10 rfl 0 (by decide) kw_1055 rfl rfl dX8_parent_11 ?_
  exact W.iret (v := (M_5 4 0)) hx hb hr (fun t ht hW => ⟨⟨(M_5 4 0), M_5, rfl, hw, by unfold rt_B; rw [ht]; exact hP⟩, hS.F ht⟩) hS.2.2 dX8_parent_14
