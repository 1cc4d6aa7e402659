def sw_AC (cA : Nat → ClassId) (x13 x14 : Nat) (a : Nat) : Unit → va_W := fun u => match u with
  | _ => []
set_option maxHeartbeats 8000000 in
set_option maxRecDepth 100000 in
theorem mtAC (l : Launch) (D : va_G) (cA : Nat → ClassId) (sz x13 x14 : Nat) (a : Nat) : Met l yJxa1e45_init_da8c8 (Cond.code yJxa1e45_init_da8c8 cJxa1e45_init_da8c8 1 none :: lw_all) ({ frames := 1, cells := 0, slots := 0, locals := 12 } : Room) (va_Pc [.ref a] (sx_P D cA x13 x14 sz [])) (va_Qv (fun _ : Unit => True) (sx_B D [] sz (sw_AC cA x13 x14 a)) (va_A [] sz)) 0 0 (va_A [] sz) := by
  refine Met.ofW (cc := cJxa1e45_init_da8c8) (maxL := 1) (ret := none) (by decide) rfl ?_
  intro p e s m args below meth c s₁ B hml hv
  obtain ⟨rfl, hsz, hP, hD, hK, hN⟩ := hv
  have hx := B.exec
  have hb := B.bytes
  have hr := B.returns
  have hts0 := atoms_spec (ws := (Cond.code yJxa1e45_init_da8c8 cJxa1e45_init_da8c8 1 none :: lw_all)) B.pre
  have hown : s.vm.findClass RJxa1e45 = some m.cls := findClass_of_methodNamed B.named
  have hlocks := B.notSynchronized
  subst hsz
  have hin : meth.name = "<init>" := (name_of_methodNamed B.named B.method).1
  have F : pt_F p m c cJxa1e45_init_da8c8 1 s _ RJxa1e45 D cA := ⟨⟨hx, hb, hml, hown, fun w h => hts0 w (List.mem_cons_of_mem _ h)⟩, hK⟩
  have s_cb : 0 ≤ (headSpec (Cond.code yJxa1e45_init_da8c8 cJxa1e45_init_da8c8 1 none :: lw_all) ({ frames := 1, cells := 0, slots := 0, locals := 12 } : Room)).room.cells := (Nat.le_of_ble_eq_true rfl)
  have s_sb : 0 ≤ (headSpec (Cond.code yJxa1e45_init_da8c8 cJxa1e45_init_da8c8 1 none :: lw_all) ({ frames := 1, cells := 0, slots := 0, locals := 12 } : Room)).room.slots := (Nat.le_of_ble_eq_true rfl)
  have hS : va_S (va_A [] s.heap.size) s.heap s.heap [] := va_S.rf
  have hA : ∀ z9, s.heap.size ≤ z9 → (va_A [] s.heap.size) z9 := fun z9 h => Or.inr h
  replace hP : va_P D pt_cl (([] : va_W) ++ []) s.heap := hP
  replace hD : va_D (va_A [] s.heap.size) (([] : va_W) ++ []) := hD
  have hl := lv_entry ([.ref a]) (n := 1) (Nat.le_of_ble_eq_true rfl)
  rw [lg_entry_eq]
  generalize (lg_sl ([.ref a]) ++ List.replicate (1 - (lg_sl ([.ref a])).length) Slot.unset).toArray = ls at hl ⊢
  have hl : lv_has ls 1 [(0, .ref a)] := hl
  refine lv_aload_n hx hb dJxa1e45_init_da8c8_0 rfl (lv_at hl 0 rfl) ?_
  refine W.objInit hx hb hown (F.1.2.2.2.2 _ kw_969) (F.1.2.2.2.2 _ kw_89) (F.1.2.2.2.2 _ kw_90) rfl (by rw [hml]; exact hl.1) rfl dJxa1e45_init_da8c8_1 (Nat.le_of_ble_eq_true rfl) (Nat.le_of_ble_eq_true rfl) ?_
  refine W.eq (g2 := F0 m 4 ls []) rfl ?_
  exact W.vret hx hb hr (fun t ht hW => ⟨⟨(), rfl, trivial, ⟨by rw [ht]; exact hP, hD⟩⟩, hS.F ht⟩) hS.2.2 dJxa1e45_init_da8c8_4
def sw_AB (cA : Nat → ClassId) (x13 x14 : Nat) (a : Nat) : Unit → va_W := fun u => match u with
  | _ => [(a, .inr (13, [.int 0, .null, .int 0]))]
set_option maxHeartbeats 8000000 in
set_option maxRecDepth 100000 in
theorem mtAB (l : Launch) (D : va_G) (cA : Nat → ClassId) (sz x13 x14 : Nat) (a : Nat) : Met l yJxc12de_init_da8c8 (Cond.code yJxc12de_init_da8c8 cJxc12de_init_da8c8 1 none :: lw_all) ({ frames := 2, cells := 0, slots := 0, locals := 32 } : Room) (va_Pc [.ref a] (sx_P D cA x13 x14 sz [(a, .inr (13, [.int 0, .null, .int 0]))])) (va_Qv (fun _ : Unit => True) (sx_B D [(a, .inr (13, [.int 0, .null, .int 0]))] sz (sw_AB cA x13 x14 a)) (va_A [(a, .inr (13, [.int 0, .null, .int 0]))] sz)) 0 0 (va_A [(a, .inr (13, [.int 0, .null, .int 0]))] sz) := by
  refine Met.ofW (cc := cJxc12de_init_da8c8) (maxL := 1) (ret := none) (by decide) rfl ?_
  intro p e s m args below meth c s₁ B hml hv
  obtain ⟨rfl, hsz, hP, hD, hK, hN⟩ := hv
  have hx := B.exec
  have hb := B.bytes
  have hr := B.returns
  have hts0 := atoms_spec (ws := (Cond.code yJxc12de_init_da8c8 cJxc12de_init_da8c8 1 none :: lw_all)) B.pre
  have hown : s.vm.findClass RJxc12de = some m.cls := findClass_of_methodNamed B.named
  have hlocks := B.notSynchronized
  subst hsz
  have hin : meth.name = "<init>" := (name_of_methodNamed B.named B.method).1
  have F : pt_F p m c cJxc12de_init_da8c8 1 s _ RJxc12de D cA := ⟨⟨hx, hb, hml, hown, fun w h => hts0 w (List.mem_cons_of_mem _ h)⟩, hK⟩
  have s_cb : 0 ≤ (headSpec (Cond.code yJxc12de_init_da8c8 cJxc12de_init_da8c8 1 none :: lw_all) ({ frames := 2, cells := 0, slots := 0, locals := 32 } : Room)).room.cells := (Nat.le_of_ble_eq_true rfl)
  have s_sb : 0 ≤ (headSpec (Cond.code yJxc12de_init_da8c8 cJxc12de_init_da8c8 1 none :: lw_all) ({ frames := 2, cells := 0, slots := 0, locals := 32 } : Room)).room.slots := (Nat.le_of_ble_eq_true rfl)
  have hS : va_S (va_A [(a, .inr (13, [.int 0, .null, .int 0]))] s.heap.size) s.heap s.heap [] := va_S.rf
  have hA : ∀ z9, s.heap.size ≤ z9 → (va_A [(a, .inr (13, [.int 0, .null, .int 0]))] s.heap.size) z9 := fun z9 h => Or.inr h
  replace hP : va_P D pt_cl (([] : va_W) ++ [(a, .inr (13, [.int 0, .null, .int 0]))]) s.heap := hP
  replace hD : va_D (va_A [(a, .inr (13, [.int 0, .null, .int 0]))] s.heap.size) (([] : va_W) ++ [(a, .inr (13, [.int 0, .null, .int 0]))]) := hD
  have hl := lv_entry ([.ref a]) (n := 1) (Nat.le_of_ble_eq_true rfl)
  rw [lg_entry_eq]
  generalize (lg_sl ([.ref a]) ++ List.replicate (1 - (lg_sl ([.ref a])).length) Slot.unset).toArray = ls at hl ⊢
  have hl : lv_has ls 1 [(0, .ref a)] := hl
  refine lv_aload_n hx hb dJxc12de_init_da8c8_0 rfl (lv_at hl 0 rfl) ?_
  refine sx_callv (wc := []) (wr := [(a, .inr (13, [.int 0, .null, .int 0]))]) (pt_krun (n := 0) (As := []) (rest := []) F (mtAC l D cA _ x13 x14 a ) sx_blind (sx_pre (wc := []) F hP hD hN hS hA [] rfl rfl) kw_968 (Or.inl kw_966) kw_62 kw_967 rfl ⟨by decide, by decide, by decide +kernel⟩ ⟨rfl, rfl, (Nat.le_of_ble_eq_true rfl), (Nat.le_of_ble_eq_true rfl)⟩ rfl hl.1 rfl (Nat.le_of_ble_eq_true rfl) dJxc12de_init_da8c8_1 ⟨(Nat.le_trans (Nat.le_of_ble_eq_true rfl) s_cb), (Nat.le_trans (Nat.le_of_ble_eq_true rfl) s_sb)⟩) hP hD hS hA [] [0] rfl rfl rfl (by decide) (fun _ H locs _ hP hD hS => ?_)
  replace hP : va_P D pt_cl (([] : va_W) ++ [(a, .inr (13, [.int 0, .null, .int 0]))]) H := hP
  replace hD : va_D (va_A [(a, .inr (13, [.int 0, .null, .int 0]))] s.heap.size) (([] : va_W) ++ [(a, .inr (13, [.int 0, .null, .int 0]))]) := hD
  refine W.widen (k := 0) (n := 0) (Nat.le_of_ble_eq_true rfl) (Nat.le_of_ble_eq_true rfl) ?_
  refine lv_aload_n hx hb dJxc12de_init_da8c8_4 rfl (lv_at hl 0 rfl) ?_
  refine lv_iconst (v := 0) hx hb dJxc12de_init_da8c8_5 (by decide) ?_
  refine sx_put (Y' := [(a, .inr (13, [.int 0, .null, .int 0]))]) F hP hD hS 0 rfl inX13 tyJx4a65c tyJx4a65c_ok nmJx4a65c rfl 0 (by decide) kw_974 rfl rfl rfl rfl (Nat.le_of_ble_eq_true rfl) rfl dJxc12de_init_da8c8_6 (fun H locs hP hD hS => ?_)
  exact W.vret hx hb hr (fun t ht hW => ⟨⟨(), rfl, trivial, ⟨by rw [ht]; exact hP, hD⟩⟩, hS.F ht⟩) hS.2.2 dJxc12de_init_da8c8_9
def sw_LI (cA : Nat → ClassId) (x13 x14 : Nat) (a : Nat) : Unit → va_W := fun u => match u with
  | _ => [(a, .inr (13, [.int 0, .ref x14, .int 0]))]
set_option maxHeartbeats 8000000 in
set_option maxRecDepth 100000 in
theorem mtLI (l : Launch) (D : va_G) (cA : Nat → ClassId) (sz x13 x14 : Nat) (a : Nat) : Met l yJx4a65c_init_da8c8 (Cond.code yJx4a65c_init_da8c8 cJx4a65c_init_da8c8 1 none :: lw_all) ({ frames := 3, cells := 0, slots := 0, locals := 52 } : Room) (va_Pc [.ref a] (sx_P D cA x13 x14 sz [(a, .inr (13, [.int 0, .null, .int 0]))])) (va_Qv (fun _ : Unit => True) (sx_B D [(a, .inr (13, [.int 0, .null, .int 0]))] sz (sw_LI cA x13 x14 a)) (va_A [(a, .inr (13, [.int 0, .null, .int 0]))] sz)) 0 0 (va_A [(a, .inr (13, [.int 0, .null, .int 0]))] sz) := by
  refine Met.ofW (cc := cJx4a65c_init_da8c8) (maxL := 1) (ret := none) (by decide) rfl ?_
  intro p e s m args below meth c s₁ B hml hv
  obtain ⟨rfl, hsz, hP, hD, hK, hN⟩ := hv
  have hx := B.exec
  have hb := B.bytes
  have hr := B.returns
  have hts0 := atoms_spec (ws := (Cond.code yJx4a65c_init_da8c8 cJx4a65c_init_da8c8 1 none :: lw_all)) B.pre
  have hown : s.vm.findClass RJx4a65c = some m.cls := findClass_of_methodNamed B.named
  have hlocks := B.notSynchronized
  subst hsz
  have hin : meth.name = "<init>" := (name_of_methodNamed B.named B.method).1
  have F : pt_F p m c cJx4a65c_init_da8c8 1 s _ RJx4a65c D cA := ⟨⟨hx, hb, hml, hown, fun w h => hts0 w (List.mem_cons_of_mem _ h)⟩, hK⟩
  have s_cb : 0 ≤ (headSpec (Cond.code yJx4a65c_init_da8c8 cJx4a65c_init_da8c8 1 none :: lw_all) ({ frames := 3, cells := 0, slots := 0, locals := 52 } : Room)).room.cells := (Nat.le_of_ble_eq_true rfl)
  have s_sb : 0 ≤ (headSpec (Cond.code yJx4a65c_init_da8c8 cJx4a65c_init_da8c8 1 none :: lw_all) ({ frames := 3, cells := 0, slots := 0, locals := 52 } : Room)).room.slots := (Nat.le_of_ble_eq_true rfl)
  have hS : va_S (va_A [(a, .inr (13, [.int 0, .null, .int 0]))] s.heap.size) s.heap s.heap [] := va_S.rf
  have hA : ∀ z9, s.heap.size ≤ z9 → (va_A [(a, .inr (13, [.int 0, .null, .int 0]))] s.heap.size) z9 := fun z9 h => Or.inr h
  replace hP : va_P D pt_cl (([] : va_W) ++ [(a, .inr (13, [.int 0, .null, .int 0]))]) s.heap := hP
  replace hD : va_D (va_A [(a, .inr (13, [.int 0, .null, .int 0]))] s.heap.size) (([] : va_W) ++ [(a, .inr (13, [.int 0, .null, .int 0]))]) := hD
  have hl := lv_entry ([.ref a]) (n := 1) (Nat.le_of_ble_eq_true rfl)
  rw [lg_entry_eq]
  generalize (lg_sl ([.ref a]) ++ List.replicate (1 - (lg_sl ([.ref a])).length) Slot.unset).toArray = ls at hl ⊢
  have hl : lv_has ls 1 [(0, .ref a)] := hl
  refine lv_aload_n hx hb dJx4a65c_init_da8c8_0 rfl (lv_at hl 0 rfl) ?_
  refine sx_callv (wc := [(a, .inr (13, [.int 0, .null, .int 0]))]) (wr := []) (pt_krun (n := 0) (As := []) (rest := []) F (mtAB l D cA _ x13 x14 a ) sx_blind (sx_pre (wc := [(a, .inr (13, [.int 0, .null, .int 0]))]) F hP hD hN hS hA [0] rfl rfl) kw_965 (Or.inl kw_963) kw_63 kw_964 rfl ⟨by decide, by decide, by decide +kernel⟩ ⟨rfl, rfl, (Nat.le_of_ble_eq_true rfl), (Nat.le_of_ble_eq_true rfl)⟩ rfl hl.1 rfl (Nat.le_of_ble_eq_true rfl) dJx4a65c_init_da8c8_1 ⟨(Nat.le_trans (Nat.le_of_ble_eq_true rfl) s_cb), (Nat.le_trans (Nat.le_of_ble_eq_true rfl) s_sb)⟩) hP hD hS hA [0] [] rfl rfl rfl (by decide) (fun _ H locs _ hP hD hS => ?_)
  replace hP : va_P D pt_cl (([] : va_W) ++ [(a, .inr (13, [.int 0, .null, .int 0]))]) H := hP
  replace hD : va_D (va_A [(a, .inr (13, [.int 0, .null, .int 0]))] s.heap.size) (([] : va_W) ++ [(a, .inr (13, [.int 0, .null, .int 0]))]) := hD
  refine W.widen (k := 0) (n := 0) (Nat.le_of_ble_eq_true rfl) (Nat.le_of_ble_eq_true rfl) ?_
  refine lv_aload_n hx hb dJx4a65c_init_da8c8_4 rfl (lv_at hl 0 rfl) ?_
  refine va_gets hx hb hN.2.2.1 hS hown (F.1.2.2.2.2 _ kw_970) (fun x h => h) dJx4a65c_init_da8c8_5 ?_
  refine sx_put (Y' := [(a, .inr (13, [.int 0, .ref x14, .int 0]))]) F hP hD hS 0 rfl inX13 tyJx4a65c tyJx4a65c_ok nmJx4a65c rfl 1 (by decide) kw_972 rfl rfl rfl rfl (Nat.le_of_ble_eq_true rfl) rfl dJx4a65c_init_da8c8_8 (fun H locs hP hD hS => ?_)
  exact W.vret hx hb hr (fun t ht hW => ⟨⟨(), rfl, trivial, ⟨by rw [ht]; exact hP, hD⟩⟩, hS.F ht⟩) hS.2.2 dJx4a65c_init_da8c8_11
def sw_CH (cA : Nat → ClassId) (x13 x14 : Nat) (a : Nat) : Nat × Nat → va_W := fun u => match u with
  | (q5, q16) => [(a, .inr (8, [.ref q5, .ref q16])), (q5, .inr (13, [.int 0, .ref x14, .int 0])), (q16, .inr (13, [.int 0, .ref x14, .int 0]))]
set_option maxHeartbeats 8000000 in
set_option maxRecDepth 100000 in
theorem mtCH (l : Launch) (D : va_G) (cA : Nat → ClassId) (sz x13 x14 : Nat) (a : Nat) : Met l yX8_init (Cond.code yX8_init cX8_init 1 none :: lw_all) ({ frames := 4, cells := 2, slots := 6, locals := 72 } : Room) (va_Pc [.ref a] (sx_P D cA x13 x14 sz [(a, .inr (8, [.null, .null]))])) (va_Qv (fun _ : Nat × Nat => True) (sx_B D [(a, .inr (8, [.null, .null]))] sz (sw_CH cA x13 x14 a)) (va_A [(a, .inr (8, [.null, .null]))] sz)) 2 6 (va_A [(a, .inr (8, [.null, .null]))] sz) := by
  refine Met.ofW (cc := cX8_init) (maxL := 1) (ret := none) (by decide) rfl ?_
  intro p e s m args below meth c s₁ B hml hv
  obtain ⟨rfl, hsz, hP, hD, hK, hN⟩ := hv
  have hx := B.exec
  have hb := B.bytes
  have hr := B.returns
  have hts0 := atoms_spec (ws := (Cond.code yX8_init cX8_init 1 none :: lw_all)) B.pre
  have hown : s.vm.findClass RX8 = some m.cls := findClass_of_methodNamed B.named
  have hlocks := B.notSynchronized
  subst hsz
  have hin : meth.name = "<init>" := (name_of_methodNamed B.named B.method).1
  have F : pt_F p m c cX8_init 1 s _ RX8 D cA := ⟨⟨hx, hb, hml, hown, fun w h => hts0 w (List.mem_cons_of_mem _ h)⟩, hK⟩
  have s_cb : 2 ≤ (headSpec (Cond.code yX8_init cX8_init 1 none :: lw_all) ({ frames := 4, cells := 2, slots := 6, locals := 72 } : Room)).room.cells := (Nat.le_of_ble_eq_true rfl)
  have s_sb : 6 ≤ (headSpec (Cond.code yX8_init cX8_init 1 none :: lw_all) ({ frames := 4, cells := 2, slots := 6, locals := 72 } : Room)).room.slots := (Nat.le_of_ble_eq_true rfl)
  have hS : va_S (va_A [(a, .inr (8, [.null, .null]))] s.heap.size) s.heap s.heap [] := va_S.rf
  have hA : ∀ z9, s.heap.size ≤ z9 → (va_A [(a, .inr (8, [.null, .null]))] s.heap.size) z9 := fun z9 h => Or.inr h
  replace hP : va_P D pt_cl (([] : va_W) ++ [(a, .inr (8, [.null, .null]))]) s.heap := hP
  replace hD : va_D (va_A [(a, .inr (8, [.null, .null]))] s.heap.size) (([] : va_W) ++ [(a, .inr (8, [.null, .null]))]) := hD
  have hl := lv_entry ([.ref a]) (n := 1) (Nat.le_of_ble_eq_true rfl)
  rw [lg_entry_eq]
  generalize (lg_sl ([.ref a]) ++ List.replicate (1 - (lg_sl ([.ref a])).length) Slot.unset).toArray = ls at hl ⊢
  have hl : lv_has ls 1 [(0, .ref a)] := hl
  refine lv_aload_n hx hb dX8_init_0 rfl (lv_at hl 0 rfl) ?_
  refine W.objInit hx hb hown (F.1.2.2.2.2 _ kw_957) (F.1.2.2.2.2 _ kw_89) (F.1.2.2.2.2 _ kw_90) rfl (by rw [hml]; exact hl.1) rfl dX8_init_1 (Nat.le_of_ble_eq_true rfl) (Nat.le_of_ble_eq_true rfl) ?_
  refine W.eq (g2 := F0 m 4 ls []) rfl ?_
  refine lv_aload_n hx hb dX8_init_4 rfl (lv_at hl 0 rfl) ?_
  refine pt_ynew (ci := 13) (fs := [.int 0, .null, .int 0]) F hP hD hS hA inX13 tyJx4a65c tyJx4a65c_ok kw_958 kw_959 kw_64 rfl (fun j hj => by rcases (show j = 0 ∨ j = 1 ∨ j = 2 by omega) with rfl | rfl | rfl <;> rfl) (Nat.le_trans (Nat.le_of_ble_eq_true rfl) s_cb) (Nat.le_trans (Nat.le_of_ble_eq_true rfl) s_sb) dX8_init_5 (fun q5 H hP hD hS => ?_)
  replace hP : va_P D pt_cl (([] : va_W) ++ [(a, .inr (8, [.null, .null])), (q5, .inr (13, [.int 0, .null, .int 0]))]) H := hP
  replace hD : va_D (va_A [(a, .inr (8, [.null, .null]))] s.heap.size) (([] : va_W) ++ [(a, .inr (8, [.null, .null])), (q5, .inr (13, [.int 0, .null, .int 0]))]) := hD
  refine W.widen (k := 1) (n := 3) (Nat.le_of_ble_eq_true rfl) (Nat.le_of_ble_eq_true rfl) ?_
  refine lv_dup hx hb dX8_init_8 rfl ?_
  refine sx_callv (wc := [(q5, .inr (13, [.int 0, .null, .int 0]))]) (wr := [(a, .inr (8, [.null, .null]))]) (pt_krun (n := 0) (As := []) (rest := [.ref q5, .ref a]) F (mtLI l D cA _ x13 x14 q5 ) sx_blind (sx_pre (wc := [(q5, .inr (13, [.int 0, .null, .int 0]))]) F hP hD hN hS hA [1] rfl rfl) kw_962 (Or.inl kw_960) kw_64 kw_961 rfl ⟨by decide, by decide, by decide +kernel⟩ ⟨rfl, rfl, (Nat.le_of_ble_eq_true rfl), (Nat.le_of_ble_eq_true rfl)⟩ rfl hl.1 rfl (Nat.le_of_ble_eq_true rfl) dX8_init_9 ⟨(Nat.le_trans (Nat.le_of_ble_eq_true rfl) s_cb), (Nat.le_trans (Nat.le_of_ble_eq_true rfl) s_sb)⟩) hP hD hS hA [1] [0] rfl rfl rfl (by decide) (fun _ H locs _ hP hD hS => ?_)
  replace hP : va_P D pt_cl (([] : va_W) ++ [(a, .inr (8, [.null, .null])), (q5, .inr (13, [.int 0, .ref x14, .int 0]))]) H := hP
  replace hD : va_D (va_A [(a, .inr (8, [.null, .null]))] s.heap.size) (([] : va_W) ++ [(a, .inr (8, [.null, .null])), (q5, .inr (13, [.int 0, .ref x14, .int 0]))]) := hD
  refine W.widen (k := 1) (n := 3) (Nat.le_of_ble_eq_true rfl) (Nat.le_of_ble_eq_true rfl) ?_
  refine sx_putF (Y' := [(a, .inr (8, [.ref q5, .null])), (q5, .inr (13, [.int 0, .ref x14, .int 0]))]) F hP hD hS hin 0 rfl inX8 tyX8 tyX8_ok nmX8 rfl 0 (by decide) kw_984 rfl rfl rfl rfl rfl (Nat.le_of_ble_eq_true rfl) rfl dX8_init_12 (fun H locs hP hD hS => ?_)
  refine lv_aload_n hx hb dX8_init_15 rfl (lv_at hl 0 rfl) ?_
  refine pt_ynew (ci := 13) (fs := [.int 0, .null, .int 0]) F hP hD hS hA inX13 tyJx4a65c tyJx4a65c_ok kw_958 kw_959 kw_64 rfl (fun j hj => by rcases (show j = 0 ∨ j = 1 ∨ j = 2 by omega) with rfl | rfl | rfl <;> rfl) (Nat.le_trans (Nat.le_of_ble_eq_true rfl) s_cb) (Nat.le_trans (Nat.le_of_ble_eq_true rfl) s_sb) dX8_init_16 (fun q16 H hP hD hS => ?_)
  replace hP : va_P D pt_cl (([] : va_W) ++ [(a, .inr (8, [.ref q5, .null])), (q5, .inr (13, [.int 0, .ref x14, .int 0])), (q16, .inr (13, [.int 0, .null, .int 0]))]) H := hP
  replace hD : va_D (va_A [(a, .inr (8, [.null, .null]))] s.heap.size) (([] : va_W) ++ [(a, .inr (8, [.ref q5, .null])), (q5, .inr (13, [.int 0, .ref x14, .int 0])), (q16, .inr (13, [.int 0, .null, .int 0]))]) := hD
  refine W.widen (k := 2) (n := 6) (Nat.le_of_ble_eq_true rfl) (Nat.le_of_ble_eq_true rfl) ?_
  refine lv_dup hx hb dX8_init_19 rfl ?_
  refine sx_callv (wc := [(q16, .inr (13, [.int 0, .null, .int 0]))]) (wr := [(a, .inr (8, [.ref q5, .null])), (q5, .inr (13, [.int 0, .ref x14, .int 0]))]) (pt_krun (n := 0) (As := []) (rest := [.ref q16, .ref a]) F (mtLI l D cA _ x13 x14 q16 ) sx_blind (sx_pre (wc := [(q16, .inr (13, [.int 0, .null, .int 0]))]) F hP hD hN hS hA [2] rfl rfl) kw_962 (Or.inl kw_960) kw_64 kw_961 rfl ⟨by decide, by decide, by decide +kernel⟩ ⟨rfl, rfl, (Nat.le_of_ble_eq_true rfl), (Nat.le_of_ble_eq_true rfl)⟩ rfl hl.1 rfl (Nat.le_of_ble_eq_true rfl) dX8_init_20 ⟨(Nat.le_trans (Nat.le_of_ble_eq_true rfl) s_cb), (Nat.le_trans (Nat.le_of_ble_eq_true rfl) s_sb)⟩) hP hD hS hA [2] [0, 1] rfl rfl rfl (by decide) (fun _ H locs _ hP hD hS => ?_)
  replace hP : va_P D pt_cl (([] : va_W) ++ [(a, .inr (8, [.ref q5, .null])), (q5, .inr (13, [.int 0, .ref x14, .int 0])), (q16, .inr (13, [.int 0, .ref x14, .int 0]))]) H := hP
  replace hD : va_D (va_A [(a, .inr (8, [.null, .null]))] s.heap.size) (([] : va_W) ++ [(a, .inr (8, [.ref q5, .null])), (q5, .inr (13, [.int 0, .ref x14, .int 0])), (q16, .inr (13, [.int 0, .ref x14, .int 0]))]) := hD
  refine W.widen (k := 2) (n := 6) (Nat.le_of_ble_eq_true rfl) (Nat.le_of_ble_eq_true rfl) ?_
  refine sx_putF (Y' := [(a, .inr (8, [.ref q5, .ref q16])), (q5, .inr (13, [.int 0, .ref x14, .int 0])), (q16, .inr (13, [.int 0, .ref x14, .int 0]))]) F hP hD hS hin 0 rfl inX8 tyX8 tyX8_ok nmX8 rfl 1 (by decide) kw_987 rfl rfl rfl rfl rfl (Nat.le_of_ble_eq_true rfl) rfl dX8_init_23 (fun H locs hP hD hS => ?_)
  exact W.vret hx hb hr (fun t ht hW => ⟨⟨(q5, q16), rfl, trivial, ⟨by rw [ht]; exact hP, hD⟩⟩, hS.F ht⟩) hS.2.2 dX8_init_26
def sw_ST (cA : Nat → ClassId) (x13 x14 : Nat) (a : Nat) (p1 : Int32) (p2 : Int32) : Unit → va_W := fun u => match u with
  | _ => [(a, .inr (10, [.int p1, .int p2, .int (-1), .ref x13, .ref x13]))]
set_option maxHeartbeats 8000000 in
set_option maxRecDepth 100000 in
theorem mtST (l : Launch) (D : va_G) (cA : Nat → ClassId) (sz x13 x14 : Nat) (a : Nat) (p1 : Int32) (p2 : Int32) : Met l yX10_init (Cond.code yX10_init cX10_init 3 none :: lw_all) ({ frames := 1, cells := 0, slots := 0, locals := 12 } : Room) (va_Pc [.ref a, .int p1, .int p2] (sx_P D cA x13 x14 sz [(a, .inr (10, [.int 0, .int 0, .int 0, .null, .null]))])) (va_Qv (fun _ : Unit => True) (sx_B D [(a, .inr (10, [.int 0, .int 0, .int 0, .null, .null]))] sz (sw_ST cA x13 x14 a p1 p2)) (va_A [(a, .inr (10, [.int 0, .int 0, .int 0, .null, .null]))] sz)) 0 0 (va_A [(a, .inr (10, [.int 0, .int 0, .int 0, .null, .null]))] sz) := by
  refine Met.ofW (cc := cX10_init) (maxL := 3) (ret := none) (by decide) rfl ?_
  intro p e s m args below meth c s₁ B hml hv
  obtain ⟨rfl, hsz, hP, hD, hK, hN⟩ := hv
  have hx := B.exec
  have hb := B.bytes
  have hr := B.returns
  have hts0 := atoms_spec (ws := (Cond.code yX10_init cX10_init 3 none :: lw_all)) B.pre
  have hown : s.vm.findClass RX10 = some m.cls := findClass_of_methodNamed B.named
  have hlocks := B.notSynchronized
  subst hsz
  have hin : meth.name = "<init>" := (name_of_methodNamed B.named B.method).1
  have F : pt_F p m c cX10_init 3 s _ RX10 D cA := ⟨⟨hx, hb, hml, hown, fun w h => hts0 w (List.mem_cons_of_mem _ h)⟩, hK⟩
  have s_cb : 0 ≤ (headSpec (Cond.code yX10_init cX10_init 3 none :: lw_all) ({ frames := 1, cells := 0, slots := 0, locals := 12 } : Room)).room.cells := (Nat.le_of_ble_eq_true rfl)
  have s_sb : 0 ≤ (headSpec (Cond.code yX10_init cX10_init 3 none :: lw_all) ({ frames := 1, cells := 0, slots := 0, locals := 12 } : Room)).room.slots := (Nat.le_of_ble_eq_true rfl)
  have hS : va_S (va_A [(a, .inr (10, [.int 0, .int 0, .int 0, .null, .null]))] s.heap.size) s.heap s.heap [] := va_S.rf
  have hA : ∀ z9, s.heap.size ≤ z9 → (va_A [(a, .inr (10, [.int 0, .int 0, .int 0, .null, .null]))] s.heap.size) z9 := fun z9 h => Or.inr h
  replace hP : va_P D pt_cl (([] : va_W) ++ [(a, .inr (10, [.int 0, .int 0, .int 0, .null, .null]))]) s.heap := hP
  replace hD : va_D (va_A [(a, .inr (10, [.int 0, .int 0, .int 0, .null, .null]))] s.heap.size) (([] : va_W) ++ [(a, .inr (10, [.int 0, .int 0, .int 0, .null, .null]))]) := hD
  have hl := lv_entry ([.ref a, .int p1, .int p2]) (n := 3) (Nat.le_of_ble_eq_true rfl)
  rw [lg_entry_eq]
  generalize (lg_sl ([.ref a, .int p1, .int p2]) ++ List.replicate (3 - (lg_sl ([.ref a, .int p1, .int p2])).length) Slot.unset).toArray = ls at hl ⊢
  have hl : lv_has ls 3 [(0, .ref a), (1, .int p1), (2, .int p2)] := hl
  refine lv_aload_n hx hb dX10_init_0 rfl (lv_at hl 0 rfl) ?_
  refine W.objInit hx hb hown (F.1.2.2.2.2 _ kw_1051) (F.1.2.2.2.2 _ kw_89) (F.1.2.2.2.2 _ kw_90) rfl (by rw [hml]; exact hl.1) rfl dX10_init_1 (Nat.le_of_ble_eq_true rfl) (Nat.le_of_ble_eq_true rfl) ?_
  refine W.eq (g2 := F0 m 4 ls []) rfl ?_
  refine lv_aload_n hx hb dX10_init_4 rfl (lv_at hl 0 rfl) ?_
  refine lv_iconst (v := (-1)) hx hb dX10_init_5 (by decide) ?_
  refine sx_put (Y' := [(a, .inr (10, [.int 0, .int 0, .int (-1), .null, .null]))]) F hP hD hS 0 rfl inX10 tyX10 tyX10_ok nmX10 rfl 2 (by decide) kw_1060 rfl rfl rfl rfl (Nat.le_of_ble_eq_true rfl) rfl dX10_init_6 (fun H locs hP hD hS => ?_)
  refine lv_aload_n hx hb dX10_init_9 rfl (lv_at hl 0 rfl) ?_
  refine va_getsN hx hb hN.2.2.2 hS hown (F.1.2.2.2.2 _ kw_1052) (fun x h => h) dX10_init_10 ?_
  refine sx_put (Y' := [(a, .inr (10, [.int 0, .int 0, .int (-1), .ref x13, .null]))]) F hP hD hS 0 rfl inX10 tyX10 tyX10_ok nmX10 rfl 3 (by decide) kw_1063 rfl rfl rfl rfl (Nat.le_of_ble_eq_true rfl) rfl dX10_init_13 (fun H locs hP hD hS => ?_)
  refine lv_aload_n hx hb dX10_init_16 rfl (lv_at hl 0 rfl) ?_
  refine va_getsN hx hb hN.2.2.2 hS hown (F.1.2.2.2.2 _ kw_1052) (fun x h => h) dX10_init_17 ?_
  refine sx_put (Y' := [(a, .inr (10, [.int 0, .int 0, .int (-1), .ref x13, .ref x13]))]) F hP hD hS 0 rfl inX10 tyX10 tyX10_ok nmX10 rfl 4 (by decide) kw_1066 rfl rfl rfl rfl (Nat.le_of_ble_eq_true rfl) rfl dX10_init_20 (fun H locs hP hD hS => ?_)
  refine lv_aload_n hx hb dX10_init_23 rfl (lv_at hl 0 rfl) ?_
  refine lv_iload_n hx hb dX10_init_24 rfl (lv_at hl 1 rfl) ?_
  refine sx_putF (Y' := [(a, .inr (10, [.int p1, .int 0, .int (-1), .ref x13, .ref x13]))]) F hP hD hS hin 0 rfl inX10 tyX10 tyX10_ok nmX10 rfl 0 (by decide) kw_1054 rfl rfl rfl rfl rfl (Nat.le_of_ble_eq_true rfl) rfl dX10_init_25 (fun H locs hP hD hS => ?_)
  refine lv_aload_n hx hb dX10_init_28 rfl (lv_at hl 0 rfl) ?_
  refine lv_iload_n hx hb dX10_init_29 rfl (lv_at hl 2 rfl) ?_
  refine sx_putF (Y' := [(a, .inr (10, [.int p1, .int p2, .int (-1), .ref x13, .ref x13]))]) F hP hD hS hin 0 rfl inX10 tyX10 tyX10_ok nmX10 rfl 1 (by decide) kw_1057 rfl rfl rfl rfl rfl (Nat.le_of_ble_eq_true rfl) rfl dX10_init_30 (fun H locs hP hD hS => ?_)
  exact W.vret hx hb hr (fun t ht hW => ⟨⟨(), rfl, trivial, ⟨by rw [ht]; exact hP, hD⟩⟩, hS.F ht⟩) hS.2.2 dX10_init_33
def sw_TR (cA : Nat → ClassId) (x13 x14 : Nat) (a : Nat) (p1 : Int32) (p2 : Int32) (p3 : Int32) (p4 : Int32) : Unit → va_W := fun u => match u with
  | _ => [(a, .inr (11, [.int p1, .int p2, .int p3, .int p4, .ref x13, .ref x13]))]
set_option maxHeartbeats 8000000 in
set_option maxRecDepth 100000 in
theorem mtTR (l : Launch) (D : va_G) (cA : Nat → ClassId) (sz x13 x14 : Nat) (a : Nat) (p1 : Int32) (p2 : Int32) (p3 : Int32) (p4 : Int32) : Met l yX11_init (Cond.code yX11_init cX11_init 5 none :: lw_all) ({ frames := 1, cells := 0, slots := 0, locals := 12 } : Room) (va_Pc [.ref a, .int p1, .int p2, .int p3, .int p4] (sx_P D cA x13 x14 sz [(a, .inr (11, [.int 0, .int 0, .int 0, .int 0, .null, .null]))])) (va_Qv (fun _ : Unit => True) (sx_B D [(a, .inr (11, [.int 0, .int 0, .int 0, .int 0, .null, .null]))] sz (sw_TR cA x13 x14 a p1 p2 p3 p4)) (va_A [(a, .inr (11, [.int 0, .int 0, .int 0, .int 0, .null, .null]))] sz)) 0 0 (va_A [(a, .inr (11, [.int 0, .int 0, .int 0, .int 0, .null, .null]))] sz) := by
  refine Met.ofW (cc := cX11_init) (maxL := 5) (ret := none) (by decide) rfl ?_
  intro p e s m args below meth c s₁ B hml hv
  obtain ⟨rfl, hsz, hP, hD, hK, hN⟩ := hv
  have hx := B.exec
  have hb := B.bytes
  have hr := B.returns
  have hts0 := atoms_spec (ws := (Cond.code yX11_init cX11_init 5 none :: lw_all)) B.pre
  have hown : s.vm.findClass RX11 = some m.cls := findClass_of_methodNamed B.named
  have hlocks := B.notSynchronized
  subst hsz
  have hin : meth.name = "<init>" := (name_of_methodNamed B.named B.method).1
  have F : pt_F p m c cX11_init 5 s _ RX11 D cA := ⟨⟨hx, hb, hml, hown, fun w h => hts0 w (List.mem_cons_of_mem _ h)⟩, hK⟩
  have s_cb : 0 ≤ (headSpec (Cond.code yX11_init cX11_init 5 none :: lw_all) ({ frames := 1, cells := 0, slots := 0, locals := 12 } : Room)).room.cells := (Nat.le_of_ble_eq_true rfl)
  have s_sb : 0 ≤ (headSpec (Cond.code yX11_init cX11_init 5 none :: lw_all) ({ frames := 1, cells := 0, slots := 0, locals := 12 } : Room)).room.slots := (Nat.le_of_ble_eq_true rfl)
  have hS : va_S (va_A [(a, .inr (11, [.int 0, .int 0, .int 0, .int 0, .null, .null]))] s.heap.size) s.heap s.heap [] := va_S.rf
  have hA : ∀ z9, s.heap.size ≤ z9 → (va_A [(a, .inr (11, [.int 0, .int 0, .int 0, .int 0, .null, .null]))] s.heap.size) z9 := fun z9 h => Or.inr h
  replace hP : va_P D pt_cl (([] : va_W) ++ [(a, .inr (11, [.int 0, .int 0, .int 0, .int 0, .null, .null]))]) s.heap := hP
  replace hD : va_D (va_A [(a, .inr (11, [.int 0, .int 0, .int 0, .int 0, .null, .null]))] s.heap.size) (([] : va_W) ++ [(a, .inr (11, [.int 0, .int 0, .int 0, .int 0, .null, .null]))]) := hD
  have hl := lv_entry ([.ref a, .int p1, .int p2, .int p3, .int p4]) (n := 5) (Nat.le_of_ble_eq_true rfl)
  rw [lg_entry_eq]
  generalize (lg_sl ([.ref a, .int p1, .int p2, .int p3, .int p4]) ++ List.replicate (5 - (lg_sl ([.ref a, .int p1, .int p2, .int p3, .int p4])).length) Slot.unset).toArray = ls at hl ⊢
  have hl : lv_has ls 5 [(0, .ref a), (1, .int p1), (2, .int p2), (3, .int p3), (4, .int p4)] := hl
  refine lv_aload_n hx hb dX11_init_0 rfl (lv_at hl 0 rfl) ?_
  refine W.objInit hx hb hown (F.1.2.2.2.2 _ kw_1254) (F.1.2.2.2.2 _ kw_89) (F.1.2.2.2.2 _ kw_90) rfl (by rw [hml]; exact hl.1) rfl dX11_init_1 (Nat.le_of_ble_eq_true rfl) (Nat.le_of_ble_eq_true rfl) ?_
  refine W.eq (g2 := F0 m 4 ls []) rfl ?_
  refine lv_aload_n hx hb dX11_init_4 rfl (lv_at hl 0 rfl) ?_
  refine va_getsN hx hb hN.2.2.2 hS hown (F.1.2.2.2.2 _ kw_1255) (fun x h => h) dX11_init_5 ?_
  refine sx_put (Y' := [(a, .inr (11, [.int 0, .int 0, .int 0, .int 0, .ref x13, .null]))]) F hP hD hS 0 rfl inX11 tyX11 tyX11_ok nmX11 rfl 4 (by decide) kw_1266 rfl rfl rfl rfl (Nat.le_of_ble_eq_true rfl) rfl dX11_init_8 (fun H locs hP hD hS => ?_)
  refine lv_aload_n hx hb dX11_init_11 rfl (lv_at hl 0 rfl) ?_
  refine va_getsN hx hb hN.2.2.2 hS hown (F.1.2.2.2.2 _ kw_1255) (fun x h => h) dX11_init_12 ?_
  refine sx_put (Y' := [(a, .inr (11, [.int 0, .int 0, .int 0, .int 0, .ref x13, .ref x13]))]) F hP hD hS 0 rfl inX11 tyX11 tyX11_ok nmX11 rfl 5 (by decide) kw_1269 rfl rfl rfl rfl (Nat.le_of_ble_eq_true rfl) rfl dX11_init_15 (fun H locs hP hD hS => ?_)
  refine lv_aload_n hx hb dX11_init_18 rfl (lv_at hl 0 rfl) ?_
  refine lv_iload_n hx hb dX11_init_19 rfl (lv_at hl 1 rfl) ?_
  refine sx_putF (Y' := [(a, .inr (11, [.int p1, .int 0, .int 0, .int 0, .ref x13, .ref x13]))]) F hP hD hS hin 0 rfl inX11 tyX11 tyX11_ok nmX11 rfl 0 (by decide) kw_1256 rfl rfl rfl rfl rfl (Nat.le_of_ble_eq_true rfl) rfl dX11_init_20 (fun H locs hP hD hS => ?_)
  refine lv_aload_n hx hb dX11_init_23 rfl (lv_at hl 0 rfl) ?_
  refine lv_iload_n hx hb dX11_init_24 rfl (lv_at hl 2 rfl) ?_
  refine sx_putF (Y' := [(a, .inr (11, [.int p1, .int p2, .int 0, .int 0, .ref x13, .ref x13]))]) F hP hD hS hin 0 rfl inX11 tyX11 tyX11_ok nmX11 rfl 1 (by decide) kw_1259 rfl rfl rfl rfl rfl (Nat.le_of_ble_eq_true rfl) rfl dX11_init_25 (fun H locs hP hD hS => ?_)
  refine lv_aload_n hx hb dX11_init_28 rfl (lv_at hl 0 rfl) ?_
  refine lv_iload_n hx hb dX11_init_29 rfl (lv_at hl 3 rfl) ?_
  refine sx_putF (Y' := [(a, .inr (11, [.int p1, .int p2, .int p3, .int 0, .ref x13, .ref x13]))]) F hP hD hS hin 0 rfl inX11 tyX11 tyX11_ok nmX11 rfl 2 (by decide) kw_1261 rfl rfl rfl rfl rfl (Nat.le_of_ble_eq_true rfl) rfl dX11_init_30 (fun H locs hP hD hS => ?_)
  refine lv_aload_n hx hb dX11_init_33 rfl (lv_at hl 0 rfl) ?_
  refine lv_iload hx hb dX11_init_34 (lv_at hl 4 rfl) ?_
  refine sx_putF (Y' := [(a, .inr (11, [.int p1, .int p2, .int p3, .int p4, .ref x13, .ref x13]))]) F hP hD hS hin 0 rfl inX11 tyX11 tyX11_ok nmX11 rfl 3 (by decide) kw_1263 rfl rfl rfl rfl rfl (Nat.le_of_ble_eq_true rfl) rfl dX11_init_36 (fun H locs hP hD hS => ?_)
  exact W.vret hx hb hr (fun t ht hW => ⟨⟨(), rfl, trivial, ⟨by rw [ht]; exact hP, hD⟩⟩, hS.F ht⟩) hS.2.2 dX11_init_39
def sw_RU (cA : Nat → ClassId) (x13 x14 : Nat) (a : Nat) (h : Nat) : Nat × Nat × Nat × Nat × Nat → va_W := fun u => match u with
  | (q12, q20, q27, q35, q41) => [(a, .inr (9, [.int 0, .int 0, .ref q12, .ref q20, .ref q27, .ref q35, .ref q41, .int 0, .int 0, .int 0, .ref h])), (q12, .inl (cA 0, 20, .inl (fun _ => 0))), (q20, .inl (cA 0, 20, .inl (fun _ => 0))), (q27, .inl (cA 0, 4, .inl (fun _ => 0))), (q35, .inl (cA 0, 30, .inl (fun _ => 0))), (q41, .inr (13, [.int 0, .ref x14, .int 0]))]
set_option maxHeartbeats 8000000 in
set_option maxRecDepth 100000 in
theorem mtRU (l : Launch) (D : va_G) (cA : Nat → ClassId) (sz x13 x14 : Nat) (a : Nat) (h : Nat) : Met l yX9_init (Cond.code yX9_init cX9_init 2 none :: lw_all) ({ frames := 4, cells := 5, slots := 77, locals := 72 } : Room) (va_Pc [.ref a, .ref h] (sx_P D cA x13 x14 sz [(a, .inr (9, [.int 0, .int 0, .null, .null, .null, .null, .null, .int 0, .int 0, .int 0, .null]))])) (va_Qv (fun _ : Nat × Nat × Nat × Nat × Nat => True) (sx_B D [(a, .inr (9, [.int 0, .int 0, .null, .null, .null, .null, .null, .int 0, .int 0, .int 0, .null]))] sz (sw_RU cA x13 x14 a h)) (va_A [(a, .inr (9, [.int 0, .int 0, .null, .null, .null, .null, .null, .int 0, .int 0, .int 0, .null]))] sz)) 5 77 (va_A [(a, .inr (9, [.int 0, .int 0, .null, .null, .null, .null, .null, .int 0, .int 0, .int 0, .null]))] sz) := by
  refine Met.ofW (cc := cX9_init) (maxL := 2) (ret := none) (by decide) rfl ?_
  intro p e s m args below meth c s₁ B hml hv
  obtain ⟨rfl, hsz, hP, hD, hK, hN⟩ := hv
  have hx := B.exec
  have hb := B.bytes
  have hr := B.returns
  have hts0 := atoms_spec (ws := (Cond.code yX9_init cX9_init 2 none :: lw_all)) B.pre
  have hown : s.vm.findClass RX9 = some m.cls := findClass_of_methodNamed B.named
  have hlocks := B.notSynchronized
  subst hsz
  have hin : meth.name = "<init>" := (name_of_methodNamed B.named B.method).1
  have F : pt_F p m c cX9_init 2 s _ RX9 D cA := ⟨⟨hx, hb, hml, hown, fun w h => hts0 w (List.mem_cons_of_mem _ h)⟩, hK⟩
  have s_cb : 5 ≤ (headSpec (Cond.code yX9_init cX9_init 2 none :: lw_all) ({ frames := 4, cells := 5, slots := 77, locals := 72 } : Room)).room.cells := (Nat.le_of_ble_eq_true rfl)
  have s_sb : 77 ≤ (headSpec (Cond.code yX9_init cX9_init 2 none :: lw_all) ({ frames := 4, cells := 5, slots := 77, locals := 72 } : Room)).room.slots := (Nat.le_of_ble_eq_true rfl)
  have hS : va_S (va_A [(a, .inr (9, [.int 0, .int 0, .null, .null, .null, .null, .null, .int 0, .int 0, .int 0, .null]))] s.heap.size) s.heap s.heap [] := va_S.rf
  have hA : ∀ z9, s.heap.size ≤ z9 → (va_A [(a, .inr (9, [.int 0, .int 0, .null, .null, .null, .null, .null, .int 0, .int 0, .int 0, .null]))] s.heap.size) z9 := fun z9 h => Or.inr h
  replace hP : va_P D pt_cl (([] : va_W) ++ [(a, .inr (9, [.int 0, .int 0, .null, .null, .null, .null, .null, .int 0, .int 0, .int 0, .null]))]) s.heap := hP
  replace hD : va_D (va_A [(a, .inr (9, [.int 0, .int 0, .null, .null, .null, .null, .null, .int 0, .int 0, .int 0, .null]))] s.heap.size) (([] : va_W) ++ [(a, .inr (9, [.int 0, .int 0, .null, .null, .null, .null, .null, .int 0, .int 0, .int 0, .null]))]) := hD
  have hl := lv_entry ([.ref a, .ref h]) (n := 2) (Nat.le_of_ble_eq_true rfl)
  rw [lg_entry_eq]
  generalize (lg_sl ([.ref a, .ref h]) ++ List.replicate (2 - (lg_sl ([.ref a, .ref h])).length) Slot.unset).toArray = ls at hl ⊢
  have hl : lv_has ls 2 [(0, .ref a), (1, .ref h)] := hl
  refine lv_aload_n hx hb dX9_init_0 rfl (lv_at hl 0 rfl) ?_
  refine lv_aload_n hx hb dX9_init_1 rfl (lv_at hl 1 rfl) ?_
  refine sx_putF (Y' := [(a, .inr (9, [.int 0, .int 0, .null, .null, .null, .null, .null, .int 0, .int 0, .int 0, .ref h]))]) F hP hD hS hin 0 rfl inX9 tyX9 tyX9_ok nmX9 rfl 10 (by decide) kw_1022 rfl rfl rfl rfl rfl (Nat.le_of_ble_eq_true rfl) rfl dX9_init_2 (fun H locs hP hD hS => ?_)
  refine lv_aload_n hx hb dX9_init_5 rfl (lv_at hl 0 rfl) ?_
  refine W.objInit hx hb hown (F.1.2.2.2.2 _ kw_1000) (F.1.2.2.2.2 _ kw_89) (F.1.2.2.2.2 _ kw_90) rfl (by rw [hml]; exact hl.1) rfl dX9_init_6 (Nat.le_of_ble_eq_true rfl) (Nat.le_of_ble_eq_true rfl) ?_
  refine W.eq (g2 := F0 m 9 ls []) rfl ?_
  refine lv_aload_n hx hb dX9_init_9 rfl (lv_at hl 0 rfl) ?_
  refine lv_bipush (v := 20) hx hb dX9_init_10 (by decide) ?_
  refine pt_xnew (N := 20) F hP hD hS hA kw_128 (by decide) (by decide) (by decide) (Nat.le_trans (Nat.le_of_ble_eq_true rfl) s_cb) (Nat.le_trans (Nat.le_of_ble_eq_true rfl) s_sb) dX9_init_12 (fun q12 H hP hD hS => ?_)
  replace hP : va_P D pt_cl (([] : va_W) ++ [(a, .inr (9, [.int 0, .int 0, .null, .null, .null, .null, .null, .int 0, .int 0, .int 0, .ref h])), (q12, .inl (cA 0, 20, .inl (fun _ => 0)))]) H := hP
  replace hD : va_D (va_A [(a, .inr (9, [.int 0, .int 0, .null, .null, .null, .null, .null, .int 0, .int 0, .int 0, .null]))] s.heap.size) (([] : va_W) ++ [(a, .inr (9, [.int 0, .int 0, .null, .null, .null, .null, .null, .int 0, .int 0, .int 0, .ref h])), (q12, .inl (cA 0, 20, .inl (fun _ => 0)))]) := hD
  refine W.widen (k := 1) (n := 20) (Nat.le_of_ble_eq_true rfl) (Nat.le_of_ble_eq_true rfl) ?_
  refine sx_putF (Y' := [(a, .inr (9, [.int 0, .int 0, .ref q12, .null, .null, .null, .null, .int 0, .int 0, .int 0, .ref h])), (q12, .inl (cA 0, 20, .inl (fun _ => 0)))]) F hP hD hS hin 0 rfl inX9 tyX9 tyX9_ok nmX9 rfl 2 (by decide) kw_1007 rfl rfl rfl rfl rfl (Nat.le_of_ble_eq_true rfl) rfl dX9_init_14 (fun H locs hP hD hS => ?_)
  refine lv_aload_n hx hb dX9_init_17 rfl (lv_at hl 0 rfl) ?_
  refine lv_bipush (v := 20) hx hb dX9_init_18 (by decide) ?_
  refine pt_xnew (N := 20) F hP hD hS hA kw_128 (by decide) (by decide) (by decide) (Nat.le_trans (Nat.le_of_ble_eq_true rfl) s_cb) (Nat.le_trans (Nat.le_of_ble_eq_true rfl) s_sb) dX9_init_20 (fun q20 H hP hD hS => ?_)
  replace hP : va_P D pt_cl (([] : va_W) ++ [(a, .inr (9, [.int 0, .int 0, .ref q12, .null, .null, .null, .null, .int 0, .int 0, .int 0, .ref h])), (q12, .inl (cA 0, 20, .inl (fun _ => 0))), (q20, .inl (cA 0, 20, .inl (fun _ => 0)))]) H := hP
  replace hD : va_D (va_A [(a, .inr (9, [.int 0, .int 0, .null, .null, .null, .null, .null, .int 0, .int 0, .int 0, .null]))] s.heap.size) (([] : va_W) ++ [(a, .inr (9, [.int 0, .int 0, .ref q12, .null, .null, .null, .null, .int 0, .int 0, .int 0, .ref h])), (q12, .inl (cA 0, 20, .inl (fun _ => 0))), (q20, .inl (cA 0, 20, .inl (fun _ => 0)))]) := hD
  refine W.widen (k := 2) (n := 40) (Nat.le_of_ble_eq_true rfl) (Nat.le_of_ble_eq_true rfl) ?_
  refine sx_putF (Y' := [(a, .inr (9, [.int 0, .int 0, .ref q12, .ref q20, .null, .null, .null, .int 0, .int 0, .int 0, .ref h])), (q12, .inl (cA 0, 20, .inl (fun _ => 0))), (q20, .inl (cA 0, 20, .inl (fun _ => 0)))]) F hP hD hS hin 0 rfl inX9 tyX9 tyX9_ok nmX9 rfl 3 (by decide) kw_1009 rfl rfl rfl rfl rfl (Nat.le_of_ble_eq_true rfl) rfl dX9_init_22 (fun H locs hP hD hS => ?_)
  refine lv_aload_n hx hb dX9_init_25 rfl (lv_at hl 0 rfl) ?_
  refine lv_iconst (v := 4) hx hb dX9_init_26 (by decide) ?_
  refine pt_xnew (N := 4) F hP hD hS hA kw_128 (by decide) (by decide) (by decide) (Nat.le_trans (Nat.le_of_ble_eq_true rfl) s_cb) (Nat.le_trans (Nat.le_of_ble_eq_true rfl) s_sb) dX9_init_27 (fun q27 H hP hD hS => ?_)
  replace hP : va_P D pt_cl (([] : va_W) ++ [(a, .inr (9, [.int 0, .int 0, .ref q12, .ref q20, .null, .null, .null, .int 0, .int 0, .int 0, .ref h])), (q12, .inl (cA 0, 20, .inl (fun _ => 0))), (q20, .inl (cA 0, 20, .inl (fun _ => 0))), (q27, .inl (cA 0, 4, .inl (fun _ => 0)))]) H := hP
  replace hD : va_D (va_A [(a, .inr (9, [.int 0, .int 0, .null, .null, .null, .null, .null, .int 0, .int 0, .int 0, .null]))] s.heap.size) (([] : va_W) ++ [(a, .inr (9, [.int 0, .int 0, .ref q12, .ref q20, .null, .null, .null, .int 0, .int 0, .int 0, .ref h])), (q12, .inl (cA 0, 20, .inl (fun _ => 0))), (q20, .inl (cA 0, 20, .inl (fun _ => 0))), (q27, .inl (cA 0, 4, .inl (fun _ => 0)))]) := hD
  refine W.widen (k := 3) (n := 44) (Nat.le_of_ble_eq_true rfl) (Nat.le_of_ble_eq_true rfl) ?_
  refine sx_putF (Y' := [(a, .inr (9, [.int 0, .int 0, .ref q12, .ref q20, .ref q27, .null, .null, .int 0, .int 0, .int 0, .ref h])), (q12, .inl (cA 0, 20, .inl (fun _ => 0))), (q20, .inl (cA 0, 20, .inl (fun _ => 0))), (q27, .inl (cA 0, 4, .inl (fun _ => 0)))]) F hP hD hS hin 0 rfl inX9 tyX9 tyX9_ok nmX9 rfl 4 (by decide) kw_1011 rfl rfl rfl rfl rfl (Nat.le_of_ble_eq_true rfl) rfl dX9_init_29 (fun H locs hP hD hS => ?_)
  refine lv_aload_n hx hb dX9_init_32 rfl (lv_at hl 0 rfl) ?_
  refine lv_bipush (v := 30) hx hb dX9_init_33 (by decide) ?_
  refine pt_xnew (N := 30) F hP hD hS hA kw_128 (by decide) (by decide) (by decide) (Nat.le_trans (Nat.le_of_ble_eq_true rfl) s_cb) (Nat.le_trans (Nat.le_of_ble_eq_true rfl) s_sb) dX9_init_35 (fun q35 H hP hD hS => ?_)
  replace hP : va_P D pt_cl (([] : va_W) ++ [(a, .inr (9, [.int 0, .int 0, .ref q12, .ref q20, .ref q27, .null, .null, .int 0, .int 0, .int 0, .ref h])), (q12, .inl (cA 0, 20, .inl (fun _ => 0))), (q20, .inl (cA 0, 20, .inl (fun _ => 0))), (q27, .inl (cA 0, 4, .inl (fun _ => 0))), (q35, .inl (cA 0, 30, .inl (fun _ => 0)))]) H := hP
  replace hD : va_D (va_A [(a, .inr (9, [.int 0, .int 0, .null, .null, .null, .null, .null, .int 0, .int 0, .int 0, .null]))] s.heap.size) (([] : va_W) ++ [(a, .inr (9, [.int 0, .int 0, .ref q12, .ref q20, .ref q27, .null, .null, .int 0, .int 0, .int 0, .ref h])), (q12, .inl (cA 0, 20, .inl (fun _ => 0))), (q20, .inl (cA 0, 20, .inl (fun _ => 0))), (q27, .inl (cA 0, 4, .inl (fun _ => 0))), (q35, .inl (cA 0, 30, .inl (fun _ => 0)))]) := hD
  refine W.widen (k := 4) (n := 74) (Nat.le_of_ble_eq_true rfl) (Nat.le_of_ble_eq_true rfl) ?_
  refine sx_putF (Y' := [(a, .inr (9, [.int 0, .int 0, .ref q12, .ref q20, .ref q27, .ref q35, .null, .int 0, .int 0, .int 0, .ref h])), (q12, .inl (cA 0, 20, .inl (fun _ => 0))), (q20, .inl (cA 0, 20, .inl (fun _ => 0))), (q27, .inl (cA 0, 4, .inl (fun _ => 0))), (q35, .inl (cA 0, 30, .inl (fun _ => 0)))]) F hP hD hS hin 0 rfl inX9 tyX9 tyX9_ok nmX9 rfl 5 (by decide) kw_1013 rfl rfl rfl rfl rfl (Nat.le_of_ble_eq_true rfl) rfl dX9_init_37 (fun H locs hP hD hS => ?_)
  refine lv_aload_n hx hb dX9_init_40 rfl (lv_at hl 0 rfl) ?_
  refine pt_ynew (ci := 13) (fs := [.int 0, .null, .int 0]) F hP hD hS hA inX13 tyJx4a65c tyJx4a65c_ok kw_1001 kw_959 kw_64 rfl (fun j hj => by rcases (show j = 0 ∨ j = 1 ∨ j = 2 by omega) with rfl | rfl | rfl <;> rfl) (Nat.le_trans (Nat.le_of_ble_eq_true rfl) s_cb) (Nat.le_trans (Nat.le_of_ble_eq_true rfl) s_sb) dX9_init_41 (fun q41 H hP hD hS => ?_)
  replace hP : va_P D pt_cl (([] : va_W) ++ [(a, .inr (9, [.int 0, .int 0, .ref q12, .ref q20, .ref q27, .ref q35, .null, .int 0, .int 0, .int 0, .ref h])), (q12, .inl (cA 0, 20, .inl (fun _ => 0))), (q20, .inl (cA 0, 20, .inl (fun _ => 0))), (q27, .inl (cA 0, 4, .inl (fun _ => 0))), (q35, .inl (cA 0, 30, .inl (fun _ => 0))), (q41, .inr (13, [.int 0, .null, .int 0]))]) H := hP
  replace hD : va_D (va_A [(a, .inr (9, [.int 0, .int 0, .null, .null, .null, .null, .null, .int 0, .int 0, .int 0, .null]))] s.heap.size) (([] : va_W) ++ [(a, .inr (9, [.int 0, .int 0, .ref q12, .ref q20, .ref q27, .ref q35, .null, .int 0, .int 0, .int 0, .ref h])), (q12, .inl (cA 0, 20, .inl (fun _ => 0))), (q20, .inl (cA 0, 20, .inl (fun _ => 0))), (q27, .inl (cA 0, 4, .inl (fun _ => 0))), (q35, .inl (cA 0, 30, .inl (fun _ => 0))), (q41, .inr (13, [.int 0, .null, .int 0]))]) := hD
  refine W.widen (k := 5) (n := 77) (Nat.le_of_ble_eq_true rfl) (Nat.le_of_ble_eq_true rfl) ?_
  refine lv_dup hx hb dX9_init_44 rfl ?_
  refine sx_callv (wc := [(q41, .inr (13, [.int 0, .null, .int 0]))]) (wr := [(a, .inr (9, [.int 0, .int 0, .ref q12, .ref q20, .ref q27, .ref q35, .null, .int 0, .int 0, .int 0, .ref h])), (q12, .inl (cA 0, 20, .inl (fun _ => 0))), (q20, .inl (cA 0, 20, .inl (fun _ => 0))), (q27, .inl (cA 0, 4, .inl (fun _ => 0))), (q35, .inl (cA 0, 30, .inl (fun _ => 0)))]) (pt_krun (n := 0) (As := []) (rest := [.ref q41, .ref a]) F (mtLI l D cA _ x13 x14 q41 ) sx_blind (sx_pre (wc := [(q41, .inr (13, [.int 0, .null, .int 0]))]) F hP hD hN hS hA [5] rfl rfl) kw_962 (Or.inl kw_1002) kw_64 kw_961 rfl ⟨by decide, by decide, by decide +kernel⟩ ⟨rfl, rfl, (Nat.le_of_ble_eq_true rfl), (Nat.le_of_ble_eq_true rfl)⟩ rfl hl.1 rfl (Nat.le_of_ble_eq_true rfl) dX9_init_45 ⟨(Nat.le_trans (Nat.le_of_ble_eq_true rfl) s_cb), (Nat.le_trans (Nat.le_of_ble_eq_true rfl) s_sb)⟩) hP hD hS hA [5] [0, 1, 2, 3, 4] rfl rfl rfl (by decide) (fun _ H locs _ hP hD hS => ?_)
  replace hP : va_P D pt_cl (([] : va_W) ++ [(a, .inr (9, [.int 0, .int 0, .ref q12, .ref q20, .ref q27, .ref q35, .null, .int 0, .int 0, .int 0, .ref h])), (q12, .inl (cA 0, 20, .inl (fun _ => 0))), (q20, .inl (cA 0, 20, .inl (fun _ => 0))), (q27, .inl (cA 0, 4, .inl (fun _ => 0))), (q35, .inl (cA 0, 30, .inl (fun _ => 0))), (q41, .inr (13, [.int 0, .ref x14, .int 0]))]) H := hP
  replace hD : va_D (va_A [(a, .inr (9, [.int 0, .int 0, .null, .null, .null, .null, .null, .int 0, .int 0, .int 0, .null]))] s.heap.size) (([] : va_W) ++ [(a, .inr (9, [.int 0, .int 0, .ref q12, .ref q20, .ref q27, .ref q35, .null, .int 0, .int 0, .int 0, .ref h])), (q12, .inl (cA 0, 20, .inl (fun _ => 0))), (q20, .inl (cA 0, 20, .inl (fun _ => 0))), (q27, .inl (cA 0, 4, .inl (fun _ => 0))), (q35, .inl (cA 0, 30, .inl (fun _ => 0))), (q41, .inr (13, [.int 0, .ref x14, .int 0]))]) := hD
  refine W.widen (k := 5) (n := 77) (Nat.le_of_ble_eq_true rfl) (Nat.le_of_ble_eq_true rfl) ?_
  refine sx_put (Y' := [(a, .inr (9, [.int 0, .int 0, .ref q12, .ref q20, .ref q27, .ref q35, .ref q41, .int 0, .int 0, .int 0, .ref h])), (q12, .inl (cA 0, 20, .inl (fun _ => 0))), (q20, .inl (cA 0, 20, .inl (fun _ => 0))), (q27, .inl (cA 0, 4, .inl (fun _ => 0))), (q35, .inl (cA 0, 30, .inl (fun _ => 0))), (q41, .inr (13, [.int 0, .ref x14, .int 0]))]) F hP hD hS 0 rfl inX9 tyX9 tyX9_ok nmX9 rfl 6 (by decide) kw_1015 rfl rfl rfl rfl (Nat.le_of_ble_eq_true rfl) rfl dX9_init_48 (fun H locs hP hD hS => ?_)
  exact W.vret hx hb hr (fun t ht hW => ⟨⟨(q12, q20, q27, q35, q41), rfl, trivial, ⟨by rw [ht]; exact hP, hD⟩⟩, hS.F ht⟩) hS.2.2 dX9_init_51
def sw_GI (cA : Nat → ClassId) (x13 x14 : Nat) (q : Nat) (k : Int32) : Nat → va_W := fun u => match u with
  | q52 => [(q, .inr (13, [.int k, .ref q52, .int 0])), (q52, .inl (cA 4, 10, .inr (.inr (.inr (.inr (fun _ => none))))))]
set_option maxHeartbeats 8000000 in
set_option maxRecDepth 100000 in
theorem mtGI (l : Launch) (D : va_G) (cA : Nat → ClassId) (sz x13 x14 : Nat) (q : Nat) (k : Int32) : Met l yJx4a65c_grow_92f84 (Cond.code yJx4a65c_grow_92f84 cJx4a65c_grow_92f84 4 (some (.array (.object "java/lang/Object"))) :: lw_all) ({ frames := 1, cells := 1, slots := 10, locals := 21 } : Room) (va_Pc [.ref q, .int 1] (sx_P D cA x13 x14 sz [(q, .inr (13, [.int k, .ref x14, .int 0]))])) (va_Qr (fun _ : Nat => True) (fun (u : Nat) z8 t => z8 = (match u with | q52 => q52) ∧ (sx_B D [(q, .inr (13, [.int k, .ref x14, .int 0]))] sz (sw_GI cA x13 x14 q k)) u t) (va_A [(q, .inr (13, [.int k, .ref x14, .int 0]))] sz)) 1 10 (va_A [(q, .inr (13, [.int k, .ref x14, .int 0]))] sz) := by
  refine Met.ofW (cc := cJx4a65c_grow_92f84) (maxL := 4) (ret := (some (.array (.object "java/lang/Object")))) (by decide) rfl ?_
  intro p e s m args below meth c s₁ B hml hv
  obtain ⟨rfl, hsz, hP, hD, hK, hN⟩ := hv
  have hx := B.exec
  have hb := B.bytes
  have hr := B.returns
  have hts0 := atoms_spec (ws := (Cond.code yJx4a65c_grow_92f84 cJx4a65c_grow_92f84 4 (some (.array (.object "java/lang/Object"))) :: lw_all)) B.pre
  have hown : s.vm.findClass RJx4a65c = some m.cls := findClass_of_methodNamed B.named
  have hlocks := B.notSynchronized
  subst hsz
  have F : pt_F p m c cJx4a65c_grow_92f84 4 s _ RJx4a65c D cA := ⟨⟨hx, hb, hml, hown, fun w h => hts0 w (List.mem_cons_of_mem _ h)⟩, hK⟩
  have s_cb : 1 ≤ (headSpec (Cond.code yJx4a65c_grow_92f84 cJx4a65c_grow_92f84 4 (some (.array (.object "java/lang/Object"))) :: lw_all) ({ frames := 1, cells := 1, slots := 10, locals := 21 } : Room)).room.cells := (Nat.le_of_ble_eq_true rfl)
  have s_sb : 10 ≤ (headSpec (Cond.code yJx4a65c_grow_92f84 cJx4a65c_grow_92f84 4 (some (.array (.object "java/lang/Object"))) :: lw_all) ({ frames := 1, cells := 1, slots := 10, locals := 21 } : Room)).room.slots := (Nat.le_of_ble_eq_true rfl)
  have hS : va_S (va_A [(q, .inr (13, [.int k, .ref x14, .int 0]))] s.heap.size) s.heap s.heap [] := va_S.rf
  have hA : ∀ z9, s.heap.size ≤ z9 → (va_A [(q, .inr (13, [.int k, .ref x14, .int 0]))] s.heap.size) z9 := fun z9 h => Or.inr h
  replace hP : va_P D pt_cl (([] : va_W) ++ [(q, .inr (13, [.int k, .ref x14, .int 0]))]) s.heap := hP
  replace hD : va_D (va_A [(q, .inr (13, [.int k, .ref x14, .int 0]))] s.heap.size) (([] : va_W) ++ [(q, .inr (13, [.int k, .ref x14, .int 0]))]) := hD
  have hl := lv_entry ([.ref q, .int 1]) (n := 4) (Nat.le_of_ble_eq_true rfl)
  rw [lg_entry_eq]
  generalize (lg_sl ([.ref q, .int 1]) ++ List.replicate (4 - (lg_sl ([.ref q, .int 1])).length) Slot.unset).toArray = ls at hl ⊢
  have hl : lv_has ls 4 [(0, .ref q), (1, .int 1)] := hl
  refine lv_aload_n hx hb dJx4a65c_grow_92f84_0 rfl (lv_at hl 0 rfl) ?_
  refine sx_get F hP 0 rfl inX13 rfl 1 (by decide) kw_972 rfl rfl dJx4a65c_grow_92f84_1 ?_
  refine va_tlen hx hb hN.2.1 hS (v := 0) rfl dJx4a65c_grow_92f84_4 ?_
  refine lv_istore_n (lv' := [(2, .int 0), (0, .ref q), (1, .int 1)]) hx hb dJx4a65c_grow_92f84_5 rfl hl (by decide) rfl (fun ls hl => ?_)
  refine lv_iload_n hx hb dJx4a65c_grow_92f84_6 rfl (lv_at hl 0 rfl) ?_
  refine lv_if_gt (tgt := 20) hx hb dJx4a65c_grow_92f84_7 (by decide) (fun hc => absurd hc (by decide)) (fun hc => ?_)
  refine lv_aload_n hx hb dJx4a65c_grow_92f84_10 rfl (lv_at hl 1 rfl) ?_
  refine sx_get F hP 0 rfl inX13 rfl 1 (by decide) kw_972 rfl rfl dJx4a65c_grow_92f84_11 ?_
  refine va_gets hx hb hN.2.2.1 hS hown (F.1.2.2.2.2 _ kw_970) (fun x h => h) dJx4a65c_grow_92f84_14 ?_
  refine lv_acmp_eq (rx := some x14) (ry := some x14) (tgt := 45) hx hb dJx4a65c_grow_92f84_17 (by decide) (fun hc => ?_) (fun hc => absurd rfl hc)
  refine lv_aload_n hx hb dJx4a65c_grow_92f84_45 rfl (lv_at hl 1 rfl) ?_
  refine lv_bipush (v := 10) hx hb dJx4a65c_grow_92f84_46 (by decide) ?_
  refine lv_iload_n hx hb dJx4a65c_grow_92f84_48 rfl (lv_at hl 2 rfl) ?_
  refine va_mmax hx hb (hml.trans hl.1.symm) hown (F.1.2.2.2.2 _ kw_1137) (F.1.2.2.2.2 _ kw_738) (F.1.2.2.2.2 _ kw_68) (F.1.2.2.2.2 _ kw_739) (Nat.le_of_ble_eq_true rfl) (Nat.le_of_ble_eq_true rfl) (Nat.zero_le _) (Nat.zero_le _) dJx4a65c_grow_92f84_49 ?_
  refine W.eq (g2 := F0 m 52 ls [.int 10, .ref q]) (by rfl) ?_
  refine pt_ynewq (N := 10) F hP hD hS hA 4 rfl kw_1138 kw_1133 (by decide) (by decide) (by decide) (Nat.le_trans (Nat.le_of_ble_eq_true rfl) s_cb) (Nat.le_trans (Nat.le_of_ble_eq_true rfl) s_sb) dJx4a65c_grow_92f84_52 (fun q52 H hP hD hS => ?_)
  replace hP : va_P D pt_cl (([] : va_W) ++ [(q, .inr (13, [.int k, .ref x14, .int 0])), (q52, .inl (cA 4, 10, .inr (.inr (.inr (.inr (fun _ => none))))))]) H := hP
  replace hD : va_D (va_A [(q, .inr (13, [.int k, .ref x14, .int 0]))] s.heap.size) (([] : va_W) ++ [(q, .inr (13, [.int k, .ref x14, .int 0])), (q52, .inl (cA 4, 10, .inr (.inr (.inr (.inr (fun _ => none))))))]) := hD
  refine W.widen (k := 1) (n := 10) (Nat.le_of_ble_eq_true rfl) (Nat.le_of_ble_eq_true rfl) ?_
  refine lv_dup_x1 hx hb dJx4a65c_grow_92f84_55 rfl rfl ?_
  refine sx_put (Y' := [(q, .inr (13, [.int k, .ref q52, .int 0])), (q52, .inl (cA 4, 10, .inr (.inr (.inr (.inr (fun _ => none))))))]) F hP hD hS 0 rfl inX13 tyJx4a65c tyJx4a65c_ok nmJx4a65c rfl 1 (by decide) kw_972 rfl rfl rfl rfl (Nat.le_of_ble_eq_true rfl) rfl dJx4a65c_grow_92f84_56 (fun H locs hP hD hS => ?_)
  exact W.aret (v := .ref q52) hx hb hr (Or.inr ⟨_, rfl⟩) (Or.inr ⟨_, rfl⟩) (fun t ht hW => ⟨⟨q52, q52, rfl, trivial, rfl, ⟨by rw [ht]; exact hP, hD⟩⟩, hS.F ht⟩) hS.2.2 dJx4a65c_grow_92f84_59
def sw_G0 (cA : Nat → ClassId) (x13 x14 : Nat) (q : Nat) (k : Int32) : Nat → va_W := fun u => match u with
  | q52_7 => [(q, .inr (13, [.int k, .ref q52_7, .int 0])), (q52_7, .inl (cA 4, 10, .inr (.inr (.inr (.inr (fun _ => none))))))]
set_option maxHeartbeats 8000000 in
set_option maxRecDepth 100000 in
theorem mtG0 (l : Launch) (D : va_G) (cA : Nat → ClassId) (sz x13 x14 : Nat) (q : Nat) (k : Int32) : Met l yJx4a65c_grow_d5877 (Cond.code yJx4a65c_grow_d5877 cJx4a65c_grow_d5877 1 (some (.array (.object "java/lang/Object"))) :: lw_all) ({ frames := 2, cells := 1, slots := 10, locals := 44 } : Room) (va_Pc [.ref q] (sx_P D cA x13 x14 sz [(q, .inr (13, [.int k, .ref x14, .int 0]))])) (va_Qr (fun _ : Nat => True) (fun (u : Nat) z8 t => z8 = (match u with | q52_7 => q52_7) ∧ (sx_B D [(q, .inr (13, [.int k, .ref x14, .int 0]))] sz (sw_G0 cA x13 x14 q k)) u t) (va_A [(q, .inr (13, [.int k, .ref x14, .int 0]))] sz)) 1 10 (va_A [(q, .inr (13, [.int k, .ref x14, .int 0]))] sz) := by
  refine Met.ofW (cc := cJx4a65c_grow_d5877) (maxL := 1) (ret := (some (.array (.object "java/lang/Object")))) (by decide) rfl ?_
  intro p e s m args below meth c s₁ B hml hv
  obtain ⟨rfl, hsz, hP, hD, hK, hN⟩ := hv
  have hx := B.exec
  have hb := B.bytes
  have hr := B.returns
  have hts0 := atoms_spec (ws := (Cond.code yJx4a65c_grow_d5877 cJx4a65c_grow_d5877 1 (some (.array (.object "java/lang/Object"))) :: lw_all)) B.pre
  have hown : s.vm.findClass RJx4a65c = some m.cls := findClass_of_methodNamed B.named
  have hlocks := B.notSynchronized
  subst hsz
  have F : pt_F p m c cJx4a65c_grow_d5877 1 s _ RJx4a65c D cA := ⟨⟨hx, hb, hml, hown, fun w h => hts0 w (List.mem_cons_of_mem _ h)⟩, hK⟩
  have s_cb : 1 ≤ (headSpec (Cond.code yJx4a65c_grow_d5877 cJx4a65c_grow_d5877 1 (some (.array (.object "java/lang/Object"))) :: lw_all) ({ frames := 2, cells := 1, slots := 10, locals := 44 } : Room)).room.cells := (Nat.le_of_ble_eq_true rfl)
  have s_sb : 10 ≤ (headSpec (Cond.code yJx4a65c_grow_d5877 cJx4a65c_grow_d5877 1 (some (.array (.object "java/lang/Object"))) :: lw_all) ({ frames := 2, cells := 1, slots := 10, locals := 44 } : Room)).room.slots := (Nat.le_of_ble_eq_true rfl)
  have hS : va_S (va_A [(q, .inr (13, [.int k, .ref x14, .int 0]))] s.heap.size) s.heap s.heap [] := va_S.rf
  have hA : ∀ z9, s.heap.size ≤ z9 → (va_A [(q, .inr (13, [.int k, .ref x14, .int 0]))] s.heap.size) z9 := fun z9 h => Or.inr h
  replace hP : va_P D pt_cl (([] : va_W) ++ [(q, .inr (13, [.int k, .ref x14, .int 0]))]) s.heap := hP
  replace hD : va_D (va_A [(q, .inr (13, [.int k, .ref x14, .int 0]))] s.heap.size) (([] : va_W) ++ [(q, .inr (13, [.int k, .ref x14, .int 0]))]) := hD
  have hl := lv_entry ([.ref q]) (n := 1) (Nat.le_of_ble_eq_true rfl)
  rw [lg_entry_eq]
  generalize (lg_sl ([.ref q]) ++ List.replicate (1 - (lg_sl ([.ref q])).length) Slot.unset).toArray = ls at hl ⊢
  have hl : lv_has ls 1 [(0, .ref q)] := hl
  refine lv_aload_n hx hb dJx4a65c_grow_d5877_0 rfl (lv_at hl 0 rfl) ?_
  refine lv_aload_n hx hb dJx4a65c_grow_d5877_1 rfl (lv_at hl 0 rfl) ?_
  refine sx_get F hP 0 rfl inX13 rfl 2 (by decide) kw_973 rfl rfl dJx4a65c_grow_d5877_2 ?_
  refine lv_iconst (v := 1) hx hb dJx4a65c_grow_d5877_5 (by decide) ?_
  refine lv_iadd hx hb dJx4a65c_grow_d5877_6 ?_
  refine sx_callr (wc := [(q, .inr (13, [.int k, .ref x14, .int 0]))]) (wr := []) (sx_runV (n := 1) (As := [.int (0 + 1)]) (rest := []) F hP 0 rfl rfl (mtGI l D cA _ x13 x14 q k ) sx_blind (sx_pre (wc := [(q, .inr (13, [.int k, .ref x14, .int 0]))]) F hP hD hN hS hA [0] rfl rfl) kw_1095 kw_1092 kw_64 kw_1094 kw_27 ⟨by decide, by decide, by decide +kernel⟩ ⟨rfl, rfl, (Nat.le_of_ble_eq_true rfl), (Nat.le_of_ble_eq_true rfl)⟩ rfl hl.1 rfl (Nat.le_of_ble_eq_true rfl) dJx4a65c_grow_d5877_7 ⟨(Nat.le_trans (Nat.le_of_ble_eq_true rfl) s_cb), (Nat.le_trans (Nat.le_of_ble_eq_true rfl) s_sb)⟩) hP hD hS hA [0] [] rfl rfl rfl (by decide) (fun q52_7 H locs _ hP hD hS => ?_)
  replace hP : va_P D pt_cl (([] : va_W) ++ [(q, .inr (13, [.int k, .ref q52_7, .int 0])), (q52_7, .inl (cA 4, 10, .inr (.inr (.inr (.inr (fun _ => none))))))]) H := hP
  replace hD : va_D (va_A [(q, .inr (13, [.int k, .ref x14, .int 0]))] s.heap.size) (([] : va_W) ++ [(q, .inr (13, [.int k, .ref q52_7, .int 0])), (q52_7, .inl (cA 4, 10, .inr (.inr (.inr (.inr (fun _ => none))))))]) := hD
  refine W.widen (k := 1) (n := 10) (Nat.le_of_ble_eq_true rfl) (Nat.le_of_ble_eq_true rfl) ?_
  exact W.aret (v := .ref q52_7) hx hb hr (Or.inr ⟨_, rfl⟩) (Or.inr ⟨_, rfl⟩) (fun t ht hW => ⟨⟨q52_7, q52_7, rfl, trivial, rfl, ⟨by rw [ht]; exact hP, hD⟩⟩, hS.F ht⟩) hS.2.2 dJx4a65c_grow_d5877_10
def sw_A3f (cA : Nat → ClassId) (x13 x14 : Nat) (q : Nat) (v : Nat) (k : Int32) (ci : Nat) (vs : List Value) : Nat → va_W := fun u => match u with
  | q52_7_7 => [(v, .inr (ci, vs)), (q, .inr (13, [.int k, .ref q52_7_7, .int (0 + 1)])), (q52_7_7, .inl (cA 4, 10, .inr (.inr (.inr (.inr (fun i => if i = 0 then some v else none))))))]
set_option maxHeartbeats 8000000 in
set_option maxRecDepth 100000 in
theorem mtA3f (l : Launch) (D : va_G) (cA : Nat → ClassId) (sz x13 x14 : Nat) (q : Nat) (v : Nat) (k : Int32) (ci : Nat) (vs : List Value) {rr : vw_C} (hcI : pt_cl[ci]? = some rr) (hcaI : Cond.castable rr.1 "java/lang/Object" ∈ lw_all) : Met l yJx4a65c_add_72be8 (Cond.code yJx4a65c_add_72be8 cJx4a65c_add_72be8 4 none :: lw_all) ({ frames := 3, cells := 1, slots := 10, locals := 64 } : Room) (va_Pc [.ref q, .ref v, .ref x14, .int 0] (sx_P D cA x13 x14 sz [(q, .inr (13, [.int k, .ref x14, .int 0])), (v, .inr (ci, vs))])) (va_Qv (fun _ : Nat => True) (sx_B D [(q, .inr (13, [.int k, .ref x14, .int 0])), (v, .inr (ci, vs))] sz (sw_A3f cA x13 x14 q v k ci vs)) (va_A [(q, .inr (13, [.int k, .ref x14, .int 0])), (v, .inr (ci, vs))] sz)) 1 10 (va_A [(q, .inr (13, [.int k, .ref x14, .int 0])), (v, .inr (ci, vs))] sz) := by
  refine Met.ofW (cc := cJx4a65c_add_72be8) (maxL := 4) (ret := none) (by decide) rfl ?_
  intro p e s m args below meth c s₁ B hml hv
  obtain ⟨rfl, hsz, hP, hD, hK, hN⟩ := hv
  have hx := B.exec
  have hb := B.bytes
  have hr := B.returns
  have hts0 := atoms_spec (ws := (Cond.code yJx4a65c_add_72be8 cJx4a65c_add_72be8 4 none :: lw_all)) B.pre
  have hown : s.vm.findClass RJx4a65c = some m.cls := findClass_of_methodNamed B.named
  have hlocks := B.notSynchronized
  subst hsz
  have F : pt_F p m c cJx4a65c_add_72be8 4 s _ RJx4a65c D cA := ⟨⟨hx, hb, hml, hown, fun w h => hts0 w (List.mem_cons_of_mem _ h)⟩, hK⟩
  have s_cb : 1 ≤ (headSpec (Cond.code yJx4a65c_add_72be8 cJx4a65c_add_72be8 4 none :: lw_all) ({ frames := 3, cells := 1, slots := 10, locals := 64 } : Room)).room.cells := (Nat.le_of_ble_eq_true rfl)
  have s_sb : 10 ≤ (headSpec (Cond.code yJx4a65c_add_72be8 cJx4a65c_add_72be8 4 none :: lw_all) ({ frames := 3, cells := 1, slots := 10, locals := 64 } : Room)).room.slots := (Nat.le_of_ble_eq_true rfl)
  have hS : va_S (va_A [(q, .inr (13, [.int k, .ref x14, .int 0])), (v, .inr (ci, vs))] s.heap.size) s.heap s.heap [] := va_S.rf
  have hA : ∀ z9, s.heap.size ≤ z9 → (va_A [(q, .inr (13, [.int k, .ref x14, .int 0])), (v, .inr (ci, vs))] s.heap.size) z9 := fun z9 h => Or.inr h
  replace hP : va_P D pt_cl (([] : va_W) ++ [(q, .inr (13, [.int k, .ref x14, .int 0])), (v, .inr (ci, vs))]) s.heap := hP
  replace hD : va_D (va_A [(q, .inr (13, [.int k, .ref x14, .int 0])), (v, .inr (ci, vs))] s.heap.size) (([] : va_W) ++ [(q, .inr (13, [.int k, .ref x14, .int 0])), (v, .inr (ci, vs))]) := hD
  have hl := lv_entry ([.ref q, .ref v, .ref x14, .int 0]) (n := 4) (Nat.le_of_ble_eq_true rfl)
  rw [lg_entry_eq]
  generalize (lg_sl ([.ref q, .ref v, .ref x14, .int 0]) ++ List.replicate (4 - (lg_sl ([.ref q, .ref v, .ref x14, .int 0])).length) Slot.unset).toArray = ls at hl ⊢
  have hl : lv_has ls 4 [(0, .ref q), (1, .ref v), (2, .ref x14), (3, .int 0)] := hl
  refine lv_iload_n hx hb dJx4a65c_add_72be8_0 rfl (lv_at hl 3 rfl) ?_
  refine lv_aload_n hx hb dJx4a65c_add_72be8_1 rfl (lv_at hl 2 rfl) ?_
  refine va_tlen hx hb hN.2.1 hS (v := 0) rfl dJx4a65c_add_72be8_2 ?_
  refine lv_icmp_ne (tgt := 11) hx hb dJx4a65c_add_72be8_3 (by decide) (fun hc => absurd rfl hc) (fun hc => ?_)
  refine lv_aload_n hx hb dJx4a65c_add_72be8_6 rfl (lv_at hl 0 rfl) ?_
  refine sx_callr (wc := [(q, .inr (13, [.int k, .ref x14, .int 0]))]) (wr := [(v, .inr (ci, vs))]) (sx_runV (n := 0) (As := []) (rest := []) F hP 0 rfl rfl (mtG0 l D cA _ x13 x14 q k ) sx_blind (sx_pre (wc := [(q, .inr (13, [.int k, .ref x14, .int 0]))]) F hP hD hN hS hA [0] rfl rfl) kw_1091 kw_1088 kw_64 kw_1090 kw_26 ⟨by decide, by decide, by decide +kernel⟩ ⟨rfl, rfl, (Nat.le_of_ble_eq_true rfl), (Nat.le_of_ble_eq_true rfl)⟩ rfl hl.1 rfl (Nat.le_of_ble_eq_true rfl) dJx4a65c_add_72be8_7 ⟨(Nat.le_trans (Nat.le_of_ble_eq_true rfl) s_cb), (Nat.le_trans (Nat.le_of_ble_eq_true rfl) s_sb)⟩) hP hD hS hA [0] [1] rfl rfl rfl (by decide) (fun q52_7_7 H locs _ hP hD hS => ?_)
  replace hP : va_P D pt_cl (([] : va_W) ++ [(v, .inr (ci, vs)), (q, .inr (13, [.int k, .ref q52_7_7, .int 0])), (q52_7_7, .inl (cA 4, 10, .inr (.inr (.inr (.inr (fun _ => none))))))]) H := hP
  replace hD : va_D (va_A [(q, .inr (13, [.int k, .ref x14, .int 0])), (v, .inr (ci, vs))] s.heap.size) (([] : va_W) ++ [(v, .inr (ci, vs)), (q, .inr (13, [.int k, .ref q52_7_7, .int 0])), (q52_7_7, .inl (cA 4, 10, .inr (.inr (.inr (.inr (fun _ => none))))))]) := hD
  refine W.widen (k := 1) (n := 10) (Nat.le_of_ble_eq_true rfl) (Nat.le_of_ble_eq_true rfl) ?_
  refine lv_astore_n (lv' := [(2, .ref q52_7_7), (0, .ref q), (1, .ref v), (3, .int 0)]) hx hb dJx4a65c_add_72be8_10 rfl hl (by decide) rfl (fun ls hl => ?_)
  refine lv_aload_n hx hb dJx4a65c_add_72be8_11 rfl (lv_at hl 0 rfl) ?_
  refine lv_iload_n hx hb dJx4a65c_add_72be8_12 rfl (lv_at hl 3 rfl) ?_
  refine lv_aload_n hx hb dJx4a65c_add_72be8_13 rfl (lv_at hl 2 rfl) ?_
  refine sx_yastO (Y' := [(v, .inr (ci, vs)), (q, .inr (13, [.int k, .ref q52_7_7, .int 0])), (q52_7_7, .inl (cA 4, 10, .inr (.inr (.inr (.inr (fun i => if i = 0 then some v else none))))))]) F hP hD hS 2 0 rfl rfl hcI hcaI (show vp_in 0 10 from by unfold vp_in; decide) dJx4a65c_add_72be8_14 rfl (fun H locs hP hD hS => ?_)
  refine lv_aload_n hx hb dJx4a65c_add_72be8_15 rfl (lv_at hl 1 rfl) ?_
  refine lv_iload_n hx hb dJx4a65c_add_72be8_16 rfl (lv_at hl 3 rfl) ?_
  refine lv_iconst (v := 1) hx hb dJx4a65c_add_72be8_17 (by decide) ?_
  refine lv_iadd hx hb dJx4a65c_add_72be8_18 ?_
  refine sx_put (Y' := [(v, .inr (ci, vs)), (q, .inr (13, [.int k, .ref q52_7_7, .int (0 + 1)])), (q52_7_7, .inl (cA 4, 10, .inr (.inr (.inr (.inr (fun i => if i = 0 then some v else none))))))]) F hP hD hS 1 rfl inX13 tyJx4a65c tyJx4a65c_ok nmJx4a65c rfl 2 (by decide) kw_973 rfl rfl rfl rfl (Nat.le_of_ble_eq_true rfl) rfl dJx4a65c_add_72be8_19 (fun H locs hP hD hS => ?_)
  exact W.vret hx hb hr (fun t ht hW => ⟨⟨q52_7_7, rfl, trivial, ⟨by rw [ht]; exact hP, hD⟩⟩, hS.F ht⟩) hS.2.2 dJx4a65c_add_72be8_22
def sw_A1f (cA : Nat → ClassId) (x13 x14 : Nat) (q : Nat) (v : Nat) (k : Int32) (ci : Nat) (vs : List Value) : Nat → va_W := fun u => match u with
  | q52_7_7_20 => [(v, .inr (ci, vs)), (q, .inr (13, [.int (k + 1), .ref q52_7_7_20, .int (0 + 1)])), (q52_7_7_20, .inl (cA 4, 10, .inr (.inr (.inr (.inr (fun i => if i = 0 then some v else none))))))]
set_option maxHeartbeats 8000000 in
set_option maxRecDepth 100000 in
theorem mtA1f (l : Launch) (D : va_G) (cA : Nat → ClassId) (sz x13 x14 : Nat) (q : Nat) (v : Nat) (k : Int32) (ci : Nat) (vs : List Value) {rr : vw_C} (hcI : pt_cl[ci]? = some rr) (hcaI : Cond.castable rr.1 "java/lang/Object" ∈ lw_all) : Met l yJx4a65c_add_9ea2d (Cond.code yJx4a65c_add_9ea2d cJx4a65c_add_9ea2d 2 (some .boolean) :: lw_all) ({ frames := 4, cells := 1, slots := 10, locals := 87 } : Room) (va_Pc [.ref q, .ref v] (sx_P D cA x13 x14 sz [(q, .inr (13, [.int k, .ref x14, .int 0])), (v, .inr (ci, vs))])) (va_Qi (fun (r : Int32) (_ : Nat) => r = 1) (sx_B D [(q, .inr (13, [.int k, .ref x14, .int 0])), (v, .inr (ci, vs))] sz (sw_A1f cA x13 x14 q v k ci vs)) (va_A [(q, .inr (13, [.int k, .ref x14, .int 0])), (v, .inr (ci, vs))] sz)) 1 10 (va_A [(q, .inr (13, [.int k, .ref x14, .int 0])), (v, .inr (ci, vs))] sz) := by
  refine Met.ofW (cc := cJx4a65c_add_9ea2d) (maxL := 2) (ret := (some .boolean)) (by decide) rfl ?_
  intro p e s m args below meth c s₁ B hml hv
  obtain ⟨rfl, hsz, hP, hD, hK, hN⟩ := hv
  have hx := B.exec
  have hb := B.bytes
  have hr := B.returns
  have hts0 := atoms_spec (ws := (Cond.code yJx4a65c_add_9ea2d cJx4a65c_add_9ea2d 2 (some .boolean) :: lw_all)) B.pre
  have hown : s.vm.findClass RJx4a65c = some m.cls := findClass_of_methodNamed B.named
  have hlocks := B.notSynchronized
  subst hsz
  have F : pt_F p m c cJx4a65c_add_9ea2d 2 s _ RJx4a65c D cA := ⟨⟨hx, hb, hml, hown, fun w h => hts0 w (List.mem_cons_of_mem _ h)⟩, hK⟩
  have s_cb : 1 ≤ (headSpec (Cond.code yJx4a65c_add_9ea2d cJx4a65c_add_9ea2d 2 (some .boolean) :: lw_all) ({ frames := 4, cells := 1, slots := 10, locals := 87 } : Room)).room.cells := (Nat.le_of_ble_eq_true rfl)
  have s_sb : 10 ≤ (headSpec (Cond.code yJx4a65c_add_9ea2d cJx4a65c_add_9ea2d 2 (some .boolean) :: lw_all) ({ frames := 4, cells := 1, slots := 10, locals := 87 } : Room)).room.slots := (Nat.le_of_ble_eq_true rfl)
  have hS : va_S (va_A [(q, .inr (13, [.int k, .ref x14, .int 0])), (v, .inr (ci, vs))] s.heap.size) s.heap s.heap [] := va_S.rf
  have hA : ∀ z9, s.heap.size ≤ z9 → (va_A [(q, .inr (13, [.int k, .ref x14, .int 0])), (v, .inr (ci, vs))] s.heap.size) z9 := fun z9 h => Or.inr h
  replace hP : va_P D pt_cl (([] : va_W) ++ [(q, .inr (13, [.int k, .ref x14, .int 0])), (v, .inr (ci, vs))]) s.heap := hP
  replace hD : va_D (va_A [(q, .inr (13, [.int k, .ref x14, .int 0])), (v, .inr (ci, vs))] s.heap.size) (([] : va_W) ++ [(q, .inr (13, [.int k, .ref x14, .int 0])), (v, .inr (ci, vs))]) := hD
  have hl := lv_entry ([.ref q, .ref v]) (n := 2) (Nat.le_of_ble_eq_true rfl)
  rw [lg_entry_eq]
  generalize (lg_sl ([.ref q, .ref v]) ++ List.replicate (2 - (lg_sl ([.ref q, .ref v])).length) Slot.unset).toArray = ls at hl ⊢
  have hl : lv_has ls 2 [(0, .ref q), (1, .ref v)] := hl
  refine lv_aload_n hx hb dJx4a65c_add_9ea2d_0 rfl (lv_at hl 0 rfl) ?_
  refine lv_dup hx hb dJx4a65c_add_9ea2d_1 rfl ?_
  refine sx_getI F hP 0 rfl inX13 rfl 0 (by decide) kw_975 kw_976 rfl dJx4a65c_add_9ea2d_2 ?_
  refine lv_iconst (v := 1) hx hb dJx4a65c_add_9ea2d_5 (by decide) ?_
  refine lv_iadd hx hb dJx4a65c_add_9ea2d_6 ?_
  refine sx_putI (Y' := [(q, .inr (13, [.int (k + 1), .ref x14, .int 0])), (v, .inr (ci, vs))]) F hP hD hS 0 rfl inX13 tyJx4a65c tyJx4a65c_ok nmJx4a65c rfl 0 (by decide) kw_975 kw_976 rfl rfl rfl (Nat.le_of_ble_eq_true rfl) rfl dJx4a65c_add_9ea2d_7 (fun H locs hP hD hS => ?_)
  refine lv_aload_n hx hb dJx4a65c_add_9ea2d_10 rfl (lv_at hl 0 rfl) ?_
  refine lv_aload_n hx hb dJx4a65c_add_9ea2d_11 rfl (lv_at hl 1 rfl) ?_
  refine lv_aload_n hx hb dJx4a65c_add_9ea2d_12 rfl (lv_at hl 0 rfl) ?_
  refine sx_get F hP 0 rfl inX13 rfl 1 (by decide) kw_972 rfl rfl dJx4a65c_add_9ea2d_13 ?_
  refine lv_aload_n hx hb dJx4a65c_add_9ea2d_16 rfl (lv_at hl 0 rfl) ?_
  refine sx_get F hP 0 rfl inX13 rfl 2 (by decide) kw_973 rfl rfl dJx4a65c_add_9ea2d_17 ?_
  refine sx_callv (wc := [(q, .inr (13, [.int (k + 1), .ref x14, .int 0])), (v, .inr (ci, vs))]) (wr := []) (sx_runV (n := 3) (As := [.ref v, .ref x14, .int 0]) (rest := []) F hP 0 rfl rfl (mtA3f l D cA _ x13 x14 q v ((k + 1)) ci vs hcI hcaI) sx_blind (sx_pre (wc := [(q, .inr (13, [.int (k + 1), .ref x14, .int 0])), (v, .inr (ci, vs))]) F hP hD hN hS hA [0, 1] rfl rfl) kw_1087 kw_1084 kw_64 kw_1086 kw_25 ⟨by decide, by decide, by decide +kernel⟩ ⟨rfl, rfl, (Nat.le_of_ble_eq_true rfl), (Nat.le_of_ble_eq_true rfl)⟩ rfl hl.1 rfl (Nat.le_of_ble_eq_true rfl) dJx4a65c_add_9ea2d_20 ⟨(Nat.le_trans (Nat.le_of_ble_eq_true rfl) s_cb), (Nat.le_trans (Nat.le_of_ble_eq_true rfl) s_sb)⟩) hP hD hS hA [0, 1] [] rfl rfl rfl (by decide) (fun q52_7_7_20 H locs _ hP hD hS => ?_)
  replace hP : va_P D pt_cl (([] : va_W) ++ [(v, .inr (ci, vs)), (q, .inr (13, [.int (k + 1), .ref q52_7_7_20, .int (0 + 1)])), (q52_7_7_20, .inl (cA 4, 10, .inr (.inr (.inr (.inr (fun i => if i = 0 then some v else none))))))]) H := hP
  replace hD : va_D (va_A [(q, .inr (13, [.int k, .ref x14, .int 0])), (v, .inr (ci, vs))] s.heap.size) (([] : va_W) ++ [(v, .inr (ci, vs)), (q, .inr (13, [.int (k + 1), .ref q52_7_7_20, .int (0 + 1)])), (q52_7_7_20, .inl (cA 4, 10, .inr (.inr (.inr (.inr (fun i => if i = 0 then some v else none))))))]) := hD
  refine W.widen (k := 1) (n := 10) (Nat.le_of_ble_eq_true rfl) (Nat.le_of_ble_eq_true rfl) ?_
  refine lv_iconst (v := 1) hx hb dJx4a65c_add_9ea2d_23 (by decide) ?_
  exact W.zret (ty := .boolean) (v := 1) hx hb hr rfl (fun t ht hW => ⟨⟨_, q52_7_7_20, rfl, rfl, ⟨by rw [ht]; exact hP, hD⟩⟩, hS.F ht⟩) hS.2.2 dJx4a65c_add_9ea2d_24
def sw_A3s (cA : Nat → ClassId) (x13 x14 : Nat) (q : Nat) (r : Nat) (v : Nat) (k : Int32) (g : Nat → Option Nat) (ci : Nat) (vs : List Value) : Unit → va_W := fun u => match u with
  | _ => [(q, .inr (13, [.int k, .ref r, .int (1 + 1)])), (r, .inl (cA 4, 10, .inr (.inr (.inr (.inr (va_up g 1 (some v))))))), (v, .inr (ci, vs))]
set_option maxHeartbeats 8000000 in
set_option maxRecDepth 100000 in
theorem mtA3s (l : Launch) (D : va_G) (cA : Nat → ClassId) (sz x13 x14 : Nat) (q : Nat) (r : Nat) (v : Nat) (k : Int32) (g : Nat → Option Nat) (ci : Nat) (vs : List Value) {rr : vw_C} (hcI : pt_cl[ci]? = some rr) (hcaI : Cond.castable rr.1 "java/lang/Object" ∈ lw_all) : Met l yJx4a65c_add_72be8 (Cond.code yJx4a65c_add_72be8 cJx4a65c_add_72be8 4 none :: lw_all) ({ frames := 0, cells := 0, slots := 0, locals := 0 } : Room) (va_Pc [.ref q, .ref v, .ref r, .int 1] (sx_P D cA x13 x14 sz [(q, .inr (13, [.int k, .ref r, .int 1])), (r, .inl (cA 4, 10, .inr (.inr (.inr (.inr g))))), (v, .inr (ci, vs))])) (va_Qv (fun _ : Unit => True) (sx_B D [(q, .inr (13, [.int k, .ref r, .int 1])), (r, .inl (cA 4, 10, .inr (.inr (.inr (.inr g))))), (v, .inr (ci, vs))] sz (sw_A3s cA x13 x14 q r v k g ci vs)) (va_A [(q, .inr (13, [.int k, .ref r, .int 1])), (r, .inl (cA 4, 10, .inr (.inr (.inr (.inr g))))), (v, .inr (ci, vs))] sz)) 0 0 (va_A [(q, .inr (13, [.int k, .ref r, .int 1])), (r, .inl (cA 4, 10, .inr (.inr (.inr (.inr g))))), (v, .inr (ci, vs))] sz) := by
  refine Met.ofW (cc := cJx4a65c_add_72be8) (maxL := 4) (ret := none) (by decide) rfl ?_
  intro p e s m args below meth c s₁ B hml hv
  obtain ⟨rfl, hsz, hP, hD, hK, hN⟩ := hv
  have hx := B.exec
  have hb := B.bytes
  have hr := B.returns
  have hts0 := atoms_spec (ws := (Cond.code yJx4a65c_add_72be8 cJx4a65c_add_72be8 4 none :: lw_all)) B.pre
  have hown : s.vm.findClass RJx4a65c = some m.cls := findClass_of_methodNamed B.named
  have hlocks := B.notSynchronized
  subst hsz
  have F : pt_F p m c cJx4a65c_add_72be8 4 s _ RJx4a65c D cA := ⟨⟨hx, hb, hml, hown, fun w h => hts0 w (List.mem_cons_of_mem _ h)⟩, hK⟩
  have s_cb : 0 ≤ (headSpec (Cond.code yJx4a65c_add_72be8 cJx4a65c_add_72be8 4 none :: lw_all) ({ frames := 0, cells := 0, slots := 0, locals := 0 } : Room)).room.cells := (Nat.le_of_ble_eq_true rfl)
  have s_sb : 0 ≤ (headSpec (Cond.code yJx4a65c_add_72be8 cJx4a65c_add_72be8 4 none :: lw_all) ({ frames := 0, cells := 0, slots := 0, locals := 0 } : Room)).room.slots := (Nat.le_of_ble_eq_true rfl)
  have hS : va_S (va_A [(q, .inr (13, [.int k, .ref r, .int 1])), (r, .inl (cA 4, 10, .inr (.inr (.inr (.inr g))))), (v, .inr (ci, vs))] s.heap.size) s.heap s.heap [] := va_S.rf
  have hA : ∀ z9, s.heap.size ≤ z9 → (va_A [(q, .inr (13, [.int k, .ref r, .int 1])), (r, .inl (cA 4, 10, .inr (.inr (.inr (.inr g))))), (v, .inr (ci, vs))] s.heap.size) z9 := fun z9 h => Or.inr h
  replace hP : va_P D pt_cl (([] : va_W) ++ [(q, .inr (13, [.int k, .ref r, .int 1])), (r, .inl (cA 4, 10, .inr (.inr (.inr (.inr g))))), (v, .inr (ci, vs))]) s.heap := hP
  replace hD : va_D (va_A [(q, .inr (13, [.int k, .ref r, .int 1])), (r, .inl (cA 4, 10, .inr (.inr (.inr (.inr g))))), (v, .inr (ci, vs))] s.heap.size) (([] : va_W) ++ [(q, .inr (13, [.int k, .ref r, .int 1])), (r, .inl (cA 4, 10, .inr (.inr (.inr (.inr g))))), (v, .inr (ci, vs))]) := hD
  have hl := lv_entry ([.ref q, .ref v, .ref r, .int 1]) (n := 4) (Nat.le_of_ble_eq_true rfl)
  rw [lg_entry_eq]
  generalize (lg_sl ([.ref q, .ref v, .ref r, .int 1]) ++ List.replicate (4 - (lg_sl ([.ref q, .ref v, .ref r, .int 1])).length) Slot.unset).toArray = ls at hl ⊢
  have hl : lv_has ls 4 [(0, .ref q), (1, .ref v), (2, .ref r), (3, .int 1)] := hl
  refine lv_iload_n hx hb dJx4a65c_add_72be8_0 rfl (lv_at hl 3 rfl) ?_
  refine lv_aload_n hx hb dJx4a65c_add_72be8_1 rfl (lv_at hl 2 rfl) ?_
  refine pt_ylen F hP 4 1 rfl rfl dJx4a65c_add_72be8_2 ?_
  refine lv_icmp_ne (tgt := 11) hx hb dJx4a65c_add_72be8_3 (by decide) (fun hc => ?_) (fun hc => absurd hc (by decide))
  refine lv_aload_n hx hb dJx4a65c_add_72be8_11 rfl (lv_at hl 2 rfl) ?_
  refine lv_iload_n hx hb dJx4a65c_add_72be8_12 rfl (lv_at hl 3 rfl) ?_
  refine lv_aload_n hx hb dJx4a65c_add_72be8_13 rfl (lv_at hl 1 rfl) ?_
  refine sx_yastO (Y' := [(q, .inr (13, [.int k, .ref r, .int 1])), (r, .inl (cA 4, 10, .inr (.inr (.inr (.inr (va_up g 1 (some v))))))), (v, .inr (ci, vs))]) F hP hD hS 1 2 rfl rfl hcI hcaI (show vp_in 1 10 from by unfold vp_in; decide) dJx4a65c_add_72be8_14 rfl (fun H locs hP hD hS => ?_)
  refine lv_aload_n hx hb dJx4a65c_add_72be8_15 rfl (lv_at hl 0 rfl) ?_
  refine lv_iload_n hx hb dJx4a65c_add_72be8_16 rfl (lv_at hl 3 rfl) ?_
  refine lv_iconst (v := 1) hx hb dJx4a65c_add_72be8_17 (by decide) ?_
  refine lv_iadd hx hb dJx4a65c_add_72be8_18 ?_
  refine sx_put (Y' := [(q, .inr (13, [.int k, .ref r, .int (1 + 1)])), (r, .inl (cA 4, 10, .inr (.inr (.inr (.inr (va_up g 1 (some v))))))), (v, .inr (ci, vs))]) F hP hD hS 0 rfl inX13 tyJx4a65c tyJx4a65c_ok nmJx4a65c rfl 2 (by decide) kw_973 rfl rfl rfl rfl (Nat.le_of_ble_eq_true rfl) rfl dJx4a65c_add_72be8_19 (fun H locs hP hD hS => ?_)
  exact W.vret hx hb hr (fun t ht hW => ⟨⟨(), rfl, trivial, ⟨by rw [ht]; exact hP, hD⟩⟩, hS.F ht⟩) hS.2.2 dJx4a65c_add_72be8_22
def sw_A1s (cA : Nat → ClassId) (x13 x14 : Nat) (q : Nat) (r : Nat) (v : Nat) (k : Int32) (g : Nat → Option Nat) (ci : Nat) (vs : List Value) : Unit → va_W := fun u => match u with
  | _ => [(q, .inr (13, [.int (k + 1), .ref r, .int (1 + 1)])), (r, .inl (cA 4, 10, .inr (.inr (.inr (.inr (va_up g 1 (some v))))))), (v, .inr (ci, vs))]
set_option maxHeartbeats 8000000 in
set_option maxRecDepth 100000 in
theorem mtA1s (l : Launch) (D : va_G) (cA : Nat → ClassId) (sz x13 x14 : Nat) (q : Nat) (r : Nat) (v : Nat) (k : Int32) (g : Nat → Option Nat) (ci : Nat) (vs : List Value) {rr : vw_C} (hcI : pt_cl[ci]? = some rr) (hcaI : Cond.castable rr.1 "java/lang/Object" ∈ lw_all) : Met l yJx4a65c_add_9ea2d (Cond.code yJx4a65c_add_9ea2d cJx4a65c_add_9ea2d 2 (some .boolean) :: lw_all) ({ frames := 1, cells := 0, slots := 0, locals := 23 } : Room) (va_Pc [.ref q, .ref v] (sx_P D cA x13 x14 sz [(q, .inr (13, [.int k, .ref r, .int 1])), (r, .inl (cA 4, 10, .inr (.inr (.inr (.inr g))))), (v, .inr (ci, vs))])) (va_Qi (fun (r : Int32) (_ : Unit) => r = 1) (sx_B D [(q, .inr (13, [.int k, .ref r, .int 1])), (r, .inl (cA 4, 10, .inr (.inr (.inr (.inr g))))), (v, .inr (ci, vs))] sz (sw_A1s cA x13 x14 q r v k g ci vs)) (va_A [(q, .inr (13, [.int k, .ref r, .int 1])), (r, .inl (cA 4, 10, .inr (.inr (.inr (.inr g))))), (v, .inr (ci, vs))] sz)) 0 0 (va_A [(q, .inr (13, [.int k, .ref r, .int 1])), (r, .inl (cA 4, 10, .inr (.inr (.inr (.inr g))))), (v, .inr (ci, vs))] sz) := by
  refine Met.ofW (cc := cJx4a65c_add_9ea2d) (maxL := 2) (ret := (some .boolean)) (by decide) rfl ?_
  intro p e s m args below meth c s₁ B hml hv
  obtain ⟨rfl, hsz, hP, hD, hK, hN⟩ := hv
  have hx := B.exec
  have hb := B.bytes
  have hr := B.returns
  have hts0 := atoms_spec (ws := (Cond.code yJx4a65c_add_9ea2d cJx4a65c_add_9ea2d 2 (some .boolean) :: lw_all)) B.pre
  have hown : s.vm.findClass RJx4a65c = some m.cls := findClass_of_methodNamed B.named
  have hlocks := B.notSynchronized
  subst hsz
  have F : pt_F p m c cJx4a65c_add_9ea2d 2 s _ RJx4a65c D cA := ⟨⟨hx, hb, hml, hown, fun w h => hts0 w (List.mem_cons_of_mem _ h)⟩, hK⟩
  have s_cb : 0 ≤ (headSpec (Cond.code yJx4a65c_add_9ea2d cJx4a65c_add_9ea2d 2 (some .boolean) :: lw_all) ({ frames := 1, cells := 0, slots := 0, locals := 23 } : Room)).room.cells := (Nat.le_of_ble_eq_true rfl)
  have s_sb : 0 ≤ (headSpec (Cond.code yJx4a65c_add_9ea2d cJx4a65c_add_9ea2d 2 (some .boolean) :: lw_all) ({ frames := 1, cells := 0, slots := 0, locals := 23 } : Room)).room.slots := (Nat.le_of_ble_eq_true rfl)
  have hS : va_S (va_A [(q, .inr (13, [.int k, .ref r, .int 1])), (r, .inl (cA 4, 10, .inr (.inr (.inr (.inr g))))), (v, .inr (ci, vs))] s.heap.size) s.heap s.heap [] := va_S.rf
  have hA : ∀ z9, s.heap.size ≤ z9 → (va_A [(q, .inr (13, [.int k, .ref r, .int 1])), (r, .inl (cA 4, 10, .inr (.inr (.inr (.inr g))))), (v, .inr (ci, vs))] s.heap.size) z9 := fun z9 h => Or.inr h
  replace hP : va_P D pt_cl (([] : va_W) ++ [(q, .inr (13, [.int k, .ref r, .int 1])), (r, .inl (cA 4, 10, .inr (.inr (.inr (.inr g))))), (v, .inr (ci, vs))]) s.heap := hP
  replace hD : va_D (va_A [(q, .inr (13, [.int k, .ref r, .int 1])), (r, .inl (cA 4, 10, .inr (.inr (.inr (.inr g))))), (v, .inr (ci, vs))] s.heap.size) (([] : va_W) ++ [(q, .inr (13, [.int k, .ref r, .int 1])), (r, .inl (cA 4, 10, .inr (.inr (.inr (.inr g))))), (v, .inr (ci, vs))]) := hD
  have hl := lv_entry ([.ref q, .ref v]) (n := 2) (Nat.le_of_ble_eq_true rfl)
  rw [lg_entry_eq]
  generalize (lg_sl ([.ref q, .ref v]) ++ List.replicate (2 - (lg_sl ([.ref q, .ref v])).length) Slot.unset).toArray = ls at hl ⊢
  have hl : lv_has ls 2 [(0, .ref q), (1, .ref v)] := hl
  refine lv_aload_n hx hb dJx4a65c_add_9ea2d_0 rfl (lv_at hl 0 rfl) ?_
  refine lv_dup hx hb dJx4a65c_add_9ea2d_1 rfl ?_
  refine sx_getI F hP 0 rfl inX13 rfl 0 (by decide) kw_975 kw_976 rfl dJx4a65c_add_9ea2d_2 ?_
  refine lv_iconst (v := 1) hx hb dJx4a65c_add_9ea2d_5 (by decide) ?_
  refine lv_iadd hx hb dJx4a65c_add_9ea2d_6 ?_
  refine sx_putI (Y' := [(q, .inr (13, [.int (k + 1), .ref r, .int 1])), (r, .inl (cA 4, 10, .inr (.inr (.inr (.inr g))))), (v, .inr (ci, vs))]) F hP hD hS 0 rfl inX13 tyJx4a65c tyJx4a65c_ok nmJx4a65c rfl 0 (by decide) kw_975 kw_976 rfl rfl rfl (Nat.le_of_ble_eq_true rfl) rfl dJx4a65c_add_9ea2d_7 (fun H locs hP hD hS => ?_)
  refine lv_aload_n hx hb dJx4a65c_add_9ea2d_10 rfl (lv_at hl 0 rfl) ?_
  refine lv_aload_n hx hb dJx4a65c_add_9ea2d_11 rfl (lv_at hl 1 rfl) ?_
  refine lv_aload_n hx hb dJx4a65c_add_9ea2d_12 rfl (lv_at hl 0 rfl) ?_
  refine sx_get F hP 0 rfl inX13 rfl 1 (by decide) kw_972 rfl rfl dJx4a65c_add_9ea2d_13 ?_
  refine lv_aload_n hx hb dJx4a65c_add_9ea2d_16 rfl (lv_at hl 0 rfl) ?_
  refine sx_get F hP 0 rfl inX13 rfl 2 (by decide) kw_973 rfl rfl dJx4a65c_add_9ea2d_17 ?_
  refine sx_callv (wc := [(q, .inr (13, [.int (k + 1), .ref r, .int 1])), (r, .inl (cA 4, 10, .inr (.inr (.inr (.inr g))))), (v, .inr (ci, vs))]) (wr := []) (sx_runV (n := 3) (As := [.ref v, .ref r, .int 1]) (rest := []) F hP 0 rfl rfl (mtA3s l D cA _ x13 x14 q r v ((k + 1)) g ci vs hcI hcaI) sx_blind (sx_pre (wc := [(q, .inr (13, [.int (k + 1), .ref r, .int 1])), (r, .inl (cA 4, 10, .inr (.inr (.inr (.inr g))))), (v, .inr (ci, vs))]) F hP hD hN hS hA [0, 1, 2] rfl rfl) kw_1087 kw_1084 kw_64 kw_1086 kw_25 ⟨by decide, by decide, by decide +kernel⟩ ⟨rfl, rfl, (Nat.le_of_ble_eq_true rfl), (Nat.le_of_ble_eq_true rfl)⟩ rfl hl.1 rfl (Nat.le_of_ble_eq_true rfl) dJx4a65c_add_9ea2d_20 ⟨(Nat.le_trans (Nat.le_of_ble_eq_true rfl) s_cb), (Nat.le_trans (Nat.le_of_ble_eq_true rfl) s_sb)⟩) hP hD hS hA [0, 1, 2] [] rfl rfl rfl (by decide) (fun _ H locs _ hP hD hS => ?_)
  replace hP : va_P D pt_cl (([] : va_W) ++ [(q, .inr (13, [.int (k + 1), .ref r, .int (1 + 1)])), (r, .inl (cA 4, 10, .inr (.inr (.inr (.inr (va_up g 1 (some v))))))), (v, .inr (ci, vs))]) H := hP
  replace hD : va_D (va_A [(q, .inr (13, [.int k, .ref r, .int 1])), (r, .inl (cA 4, 10, .inr (.inr (.inr (.inr g))))), (v, .inr (ci, vs))] s.heap.size) (([] : va_W) ++ [(q, .inr (13, [.int (k + 1), .ref r, .int (1 + 1)])), (r, .inl (cA 4, 10, .inr (.inr (.inr (.inr (va_up g 1 (some v))))))), (v, .inr (ci, vs))]) := hD
  refine W.widen (k := 0) (n := 0) (Nat.le_of_ble_eq_true rfl) (Nat.le_of_ble_eq_true rfl) ?_
  refine lv_iconst (v := 1) hx hb dJx4a65c_add_9ea2d_23 (by decide) ?_
  exact W.zret (ty := .boolean) (v := 1) hx hb hr rfl (fun t ht hW => ⟨⟨_, (), rfl, rfl, ⟨by rw [ht]; exact hP, hD⟩⟩, hS.F ht⟩) hS.2.2 dJx4a65c_add_9ea2d_24
def sw_SZ (cA : Nat → ClassId) (x13 x14 : Nat) (q : Nat) (k : Int32) (ea : Nat) (n : Int32) : Unit → va_W := fun u => match u with
  | _ => [(q, .inr (13, [.int k, .ref ea, .int n]))]
set_option maxHeartbeats 8000000 in
set_option maxRecDepth 100000 in
theorem mtSZ (l : Launch) (D : va_G) (cA : Nat → ClassId) (sz x13 x14 : Nat) (q : Nat) (k : Int32) (ea : Nat) (n : Int32) : Met l yJx4a65c_size_8abf5 (Cond.code yJx4a65c_size_8abf5 cJx4a65c_size_8abf5 1 (some .int) :: lw_all) ({ frames := 0, cells := 0, slots := 0, locals := 0 } : Room) (va_Pc [.ref q] (sx_P D cA x13 x14 sz [(q, .inr (13, [.int k, .ref ea, .int n]))])) (va_Qi (fun (r : Int32) (_ : Unit) => r = n) (sx_B D [(q, .inr (13, [.int k, .ref ea, .int n]))] sz (sw_SZ cA x13 x14 q k ea n)) (va_A [(q, .inr (13, [.int k, .ref ea, .int n]))] sz)) 0 0 (va_A [(q, .inr (13, [.int k, .ref ea, .int n]))] sz) := by
  refine Met.ofW (cc := cJx4a65c_size_8abf5) (maxL := 1) (ret := (some .int)) (by decide) rfl ?_
  intro p e s m args below meth c s₁ B hml hv
  obtain ⟨rfl, hsz, hP, hD, hK, hN⟩ := hv
  have hx := B.exec
  have hb := B.bytes
  have hr := B.returns
  have hts0 := atoms_spec (ws := (Cond.code yJx4a65c_size_8abf5 cJx4a65c_size_8abf5 1 (some .int) :: lw_all)) B.pre
  have hown : s.vm.findClass RJx4a65c = some m.cls := findClass_of_methodNamed B.named
  have hlocks := B.notSynchronized
  subst hsz
  have F : pt_F p m c cJx4a65c_size_8abf5 1 s _ RJx4a65c D cA := ⟨⟨hx, hb, hml, hown, fun w h => hts0 w (List.mem_cons_of_mem _ h)⟩, hK⟩
  have s_cb : 0 ≤ (headSpec (Cond.code yJx4a65c_size_8abf5 cJx4a65c_size_8abf5 1 (some .int) :: lw_all) ({ frames := 0, cells := 0, slots := 0, locals := 0 } : Room)).room.cells := (Nat.le_of_ble_eq_true rfl)
  have s_sb : 0 ≤ (headSpec (Cond.code yJx4a65c_size_8abf5 cJx4a65c_size_8abf5 1 (some .int) :: lw_all) ({ frames := 0, cells := 0, slots := 0, locals := 0 } : Room)).room.slots := (Nat.le_of_ble_eq_true rfl)
  have hS : va_S (va_A [(q, .inr (13, [.int k, .ref ea, .int n]))] s.heap.size) s.heap s.heap [] := va_S.rf
  have hA : ∀ z9, s.heap.size ≤ z9 → (va_A [(q, .inr (13, [.int k, .ref ea, .int n]))] s.heap.size) z9 := fun z9 h => Or.inr h
  replace hP : va_P D pt_cl (([] : va_W) ++ [(q, .inr (13, [.int k, .ref ea, .int n]))]) s.heap := hP
  replace hD : va_D (va_A [(q, .inr (13, [.int k, .ref ea, .int n]))] s.heap.size) (([] : va_W) ++ [(q, .inr (13, [.int k, .ref ea, .int n]))]) := hD
  have hl := lv_entry ([.ref q]) (n := 1) (Nat.le_of_ble_eq_true rfl)
  rw [lg_entry_eq]
  generalize (lg_sl ([.ref q]) ++ List.replicate (1 - (lg_sl ([.ref q])).length) Slot.unset).toArray = ls at hl ⊢
  have hl : lv_has ls 1 [(0, .ref q)] := hl
  refine lv_aload_n hx hb dJx4a65c_size_8abf5_0 rfl (lv_at hl 0 rfl) ?_
  refine sx_get F hP 0 rfl inX13 rfl 2 (by decide) kw_973 rfl rfl dJx4a65c_size_8abf5_1 ?_
  exact W.iret (v := n) hx hb hr (fun t ht hW => ⟨⟨_, (), rfl, rfl, ⟨by rw [ht]; exact hP, hD⟩⟩, hS.F ht⟩) hS.2.2 dJx4a65c_size_8abf5_4
def sw_MO (cA : Nat → ClassId) (x13 x14 : Nat) (a : Nat) : Nat × Nat × Nat × Nat × Nat × Nat × Nat × Nat × Nat × Nat × Nat × Nat → va_W := fun u => match u with
  | (q5, q5_9, q16_9, q16, q12_21, q20_21, q27_21, q35_21, q41_21, q29, q41, q52_7_7_20_50) => [(a, .inr (12, [.int 0, .ref q5, .ref q16, .ref q29, .int 0])), (q5, .inr (8, [.ref q5_9, .ref q16_9])), (q16_9, .inr (13, [.int 0, .ref x14, .int 0])), (q16, .inr (9, [.int 0, .int 0, .ref q12_21, .ref q20_21, .ref q27_21, .ref q35_21, .ref q41_21, .int 0, .int 0, .int 0, .ref a])), (q12_21, .inl (cA 0, 20, .inl (fun _ => 0))), (q20_21, .inl (cA 0, 20, .inl (fun _ => 0))), (q27_21, .inl (cA 0, 4, .inl (fun _ => 0))), (q35_21, .inl (cA 0, 30, .inl (fun _ => 0))), (q41_21, .inr (13, [.int 0, .ref x14, .int 0])), (q29, .inl (cA 0, 0, .inl (fun _ => 0))), (q41, .inr (10, [.int (-1), .int 0, .int (-1), .ref x13, .ref x13])), (q5_9, .inr (13, [.int (0 + 1), .ref q52_7_7_20_50, .int (0 + 1)])), (q52_7_7_20_50, .inl (cA 4, 10, .inr (.inr (.inr (.inr (fun i => if i = 0 then some q41 else none))))))]
set_option maxHeartbeats 8000000 in
set_option maxRecDepth 100000 in
theorem mtMO (l : Launch) (D : va_G) (cA : Nat → ClassId) (sz x13 x14 : Nat) (a : Nat) : Met l yX12_init (Cond.code yX12_init cX12_init 1 none :: lw_all) ({ frames := 5, cells := 12, slots := 111, locals := 108 } : Room) (va_Pc [.ref a] (sx_P D cA x13 x14 sz [(a, .inr (12, [.int 0, .null, .null, .null, .int 0]))])) (va_Qv (fun _ : Nat × Nat × Nat × Nat × Nat × Nat × Nat × Nat × Nat × Nat × Nat × Nat => True) (sx_B D [(a, .inr (12, [.int 0, .null, .null, .null, .int 0]))] sz (sw_MO cA x13 x14 a)) (va_A [(a, .inr (12, [.int 0, .null, .null, .null, .int 0]))] sz)) 12 111 (va_A [(a, .inr (12, [.int 0, .null, .null, .null, .int 0]))] sz) := by
  refine Met.ofW (cc := cX12_init) (maxL := 1) (ret := none) (by decide) rfl ?_
  intro p e s m args below meth c s₁ B hml hv
  obtain ⟨rfl, hsz, hP, hD, hK, hN⟩ := hv
  have hx := B.exec
  have hb := B.bytes
  have hr := B.returns
  have hts0 := atoms_spec (ws := (Cond.code yX12_init cX12_init 1 none :: lw_all)) B.pre
  have hown : s.vm.findClass RX12 = some m.cls := findClass_of_methodNamed B.named
  have hlocks := B.notSynchronized
  subst hsz
  have hin : meth.name = "<init>" := (name_of_methodNamed B.named B.method).1
  have F : pt_F p m c cX12_init 1 s _ RX12 D cA := ⟨⟨hx, hb, hml, hown, fun w h => hts0 w (List.mem_cons_of_mem _ h)⟩, hK⟩
  have s_cb : 12 ≤ (headSpec (Cond.code yX12_init cX12_init 1 none :: lw_all) ({ frames := 5, cells := 12, slots := 111, locals := 108 } : Room)).room.cells := (Nat.le_of_ble_eq_true rfl)
  have s_sb : 111 ≤ (headSpec (Cond.code yX12_init cX12_init 1 none :: lw_all) ({ frames := 5, cells := 12, slots := 111, locals := 108 } : Room)).room.slots := (Nat.le_of_ble_eq_true rfl)
  have hS : va_S (va_A [(a, .inr (12, [.int 0, .null, .null, .null, .int 0]))] s.heap.size) s.heap s.heap [] := va_S.rf
  have hA : ∀ z9, s.heap.size ≤ z9 → (va_A [(a, .inr (12, [.int 0, .null, .null, .null, .int 0]))] s.heap.size) z9 := fun z9 h => Or.inr h
  replace hP : va_P D pt_cl (([] : va_W) ++ [(a, .inr (12, [.int 0, .null, .null, .null, .int 0]))]) s.heap := hP
  replace hD : va_D (va_A [(a, .inr (12, [.int 0, .null, .null, .null, .int 0]))] s.heap.size) (([] : va_W) ++ [(a, .inr (12, [.int 0, .null, .null, .null, .int 0]))]) := hD
  have hl := lv_entry ([.ref a]) (n := 1) (Nat.le_of_ble_eq_true rfl)
  rw [lg_entry_eq]
  generalize (lg_sl ([.ref a]) ++ List.replicate (1 - (lg_sl ([.ref a])).length) Slot.unset).toArray = ls at hl ⊢
  have hl : lv_has ls 1 [(0, .ref a)] := hl
  refine lv_aload_n hx hb dX12_init_0 rfl (lv_at hl 0 rfl) ?_
  refine W.objInit hx hb hown (F.1.2.2.2.2 _ kw_951) (F.1.2.2.2.2 _ kw_89) (F.1.2.2.2.2 _ kw_90) rfl (by rw [hml]; exact hl.1) rfl dX12_init_1 (Nat.le_of_ble_eq_true rfl) (Nat.le_of_ble_eq_true rfl) ?_
  refine W.eq (g2 := F0 m 4 ls []) rfl ?_
  refine lv_aload_n hx hb dX12_init_4 rfl (lv_at hl 0 rfl) ?_
  refine pt_ynew (ci := 8) (fs := [.null, .null]) F hP hD hS hA inX8 tyX8 tyX8_ok kw_952 kw_953 kw_61 rfl (fun j hj => by rcases (show j = 0 ∨ j = 1 by omega) with rfl | rfl <;> rfl) (Nat.le_trans (Nat.le_of_ble_eq_true rfl) s_cb) (Nat.le_trans (Nat.le_of_ble_eq_true rfl) s_sb) dX12_init_5 (fun q5 H hP hD hS => ?_)
  replace hP : va_P D pt_cl (([] : va_W) ++ [(a, .inr (12, [.int 0, .null, .null, .null, .int 0])), (q5, .inr (8, [.null, .null]))]) H := hP
  replace hD : va_D (va_A [(a, .inr (12, [.int 0, .null, .null, .null, .int 0]))] s.heap.size) (([] : va_W) ++ [(a, .inr (12, [.int 0, .null, .null, .null, .int 0])), (q5, .inr (8, [.null, .null]))]) := hD
  refine W.widen (k := 1) (n := 2) (Nat.le_of_ble_eq_true rfl) (Nat.le_of_ble_eq_true rfl) ?_
  refine lv_dup hx hb dX12_init_8 rfl ?_
  refine sx_callv (wc := [(q5, .inr (8, [.null, .null]))]) (wr := [(a, .inr (12, [.int 0, .null, .null, .null, .int 0]))]) (pt_krun (n := 0) (As := []) (rest := [.ref q5, .ref a]) F (mtCH l D cA _ x13 x14 q5 ) sx_blind (sx_pre (wc := [(q5, .inr (8, [.null, .null]))]) F hP hD hN hS hA [1] rfl rfl) kw_956 (Or.inr ⟨_, kw_954⟩) kw_61 kw_955 rfl ⟨by decide, by decide, by decide +kernel⟩ ⟨rfl, rfl, (Nat.le_of_ble_eq_true rfl), (Nat.le_of_ble_eq_true rfl)⟩ rfl hl.1 rfl (Nat.le_of_ble_eq_true rfl) dX12_init_9 ⟨(Nat.le_trans (Nat.le_of_ble_eq_true rfl) s_cb), (Nat.le_trans (Nat.le_of_ble_eq_true rfl) s_sb)⟩) hP hD hS hA [1] [0] rfl rfl rfl (by decide) (fun u_9 H locs _ hP hD hS => ?_)
  obtain ⟨q5_9, q16_9⟩ := u_9
  replace hP : va_P D pt_cl (([] : va_W) ++ [(a, .inr (12, [.int 0, .null, .null, .null, .int 0])), (q5, .inr (8, [.ref q5_9, .ref q16_9])), (q5_9, .inr (13, [.int 0, .ref x14, .int 0])), (q16_9, .inr (13, [.int 0, .ref x14, .int 0]))]) H := hP
  replace hD : va_D (va_A [(a, .inr (12, [.int 0, .null, .null, .null, .int 0]))] s.heap.size) (([] : va_W) ++ [(a, .inr (12, [.int 0, .null, .null, .null, .int 0])), (q5, .inr (8, [.ref q5_9, .ref q16_9])), (q5_9, .inr (13, [.int 0, .ref x14, .int 0])), (q16_9, .inr (13, [.int 0, .ref x14, .int 0]))]) := hD
  refine W.widen (k := 3) (n := 8) (Nat.le_of_ble_eq_true rfl) (Nat.le_of_ble_eq_true rfl) ?_
  refine sx_putF (Y' := [(a, .inr (12, [.int 0, .ref q5, .null, .null, .int 0])), (q5, .inr (8, [.ref q5_9, .ref q16_9])), (q5_9, .inr (13, [.int 0, .ref x14, .int 0])), (q16_9, .inr (13, [.int 0, .ref x14, .int 0]))]) F hP hD hS hin 0 rfl inX12 tyX12 tyX12_ok nmX12 rfl 1 (by decide) kw_1140 rfl rfl rfl rfl rfl (Nat.le_of_ble_eq_true rfl) rfl dX12_init_12 (fun H locs hP hD hS => ?_)
  refine lv_aload_n hx hb dX12_init_15 rfl (lv_at hl 0 rfl) ?_
  refine pt_ynew (ci := 9) (fs := [.int 0, .int 0, .null, .null, .null, .null, .null, .int 0, .int 0, .int 0, .null]) F hP hD hS hA inX9 tyX9 tyX9_ok kw_995 kw_996 kw_65 rfl (fun j hj => by rcases (show j = 0 ∨ j = 1 ∨ j = 2 ∨ j = 3 ∨ j = 4 ∨ j = 5 ∨ j = 6 ∨ j = 7 ∨ j = 8 ∨ j = 9 ∨ j = 10 by omega) with rfl | rfl | rfl | rfl | rfl | rfl | rfl | rfl | rfl | rfl | rfl <;> rfl) (Nat.le_trans (Nat.le_of_ble_eq_true rfl) s_cb) (Nat.le_trans (Nat.le_of_ble_eq_true rfl) s_sb) dX12_init_16 (fun q16 H hP hD hS => ?_)
  replace hP : va_P D pt_cl (([] : va_W) ++ [(a, .inr (12, [.int 0, .ref q5, .null, .null, .int 0])), (q5, .inr (8, [.ref q5_9, .ref q16_9])), (q5_9, .inr (13, [.int 0, .ref x14, .int 0])), (q16_9, .inr (13, [.int 0, .ref x14, .int 0])), (q16, .inr (9, [.int 0, .int 0, .null, .null, .null, .null, .null, .int 0, .int 0, .int 0, .null]))]) H := hP
  replace hD : va_D (va_A [(a, .inr (12, [.int 0, .null, .null, .null, .int 0]))] s.heap.size) (([] : va_W) ++ [(a, .inr (12, [.int 0, .ref q5, .null, .null, .int 0])), (q5, .inr (8, [.ref q5_9, .ref q16_9])), (q5_9, .inr (13, [.int 0, .ref x14, .int 0])), (q16_9, .inr (13, [.int 0, .ref x14, .int 0])), (q16, .inr (9, [.int 0, .int 0, .null, .null, .null, .null, .null, .int 0, .int 0, .int 0, .null]))]) := hD
  refine W.widen (k := 4) (n := 19) (Nat.le_of_ble_eq_true rfl) (Nat.le_of_ble_eq_true rfl) ?_
  refine lv_dup hx hb dX12_init_19 rfl ?_
  refine lv_aload_n hx hb dX12_init_20 rfl (lv_at hl 0 rfl) ?_
  refine sx_callv (wc := [(q16, .inr (9, [.int 0, .int 0, .null, .null, .null, .null, .null, .int 0, .int 0, .int 0, .null]))]) (wr := [(a, .inr (12, [.int 0, .ref q5, .null, .null, .int 0])), (q5, .inr (8, [.ref q5_9, .ref q16_9])), (q5_9, .inr (13, [.int 0, .ref x14, .int 0])), (q16_9, .inr (13, [.int 0, .ref x14, .int 0]))]) (pt_krun (n := 1) (As := [.ref a]) (rest := [.ref q16, .ref a]) F (mtRU l D cA _ x13 x14 q16 a ) sx_blind (sx_pre (wc := [(q16, .inr (9, [.int 0, .int 0, .null, .null, .null, .null, .null, .int 0, .int 0, .int 0, .null]))]) F hP hD hN hS hA [4] rfl rfl) kw_999 (Or.inr ⟨_, kw_997⟩) kw_65 kw_998 rfl ⟨by decide, by decide, by decide +kernel⟩ ⟨rfl, rfl, (Nat.le_of_ble_eq_true rfl), (Nat.le_of_ble_eq_true rfl)⟩ rfl hl.1 rfl (Nat.le_of_ble_eq_true rfl) dX12_init_21 ⟨(Nat.le_trans (Nat.le_of_ble_eq_true rfl) s_cb), (Nat.le_trans (Nat.le_of_ble_eq_true rfl) s_sb)⟩) hP hD hS hA [4] [0, 1, 2, 3] rfl rfl rfl (by decide) (fun u_21 H locs _ hP hD hS => ?_)
  obtain ⟨q12_21, q20_21, q27_21, q35_21, q41_21⟩ := u_21
  replace hP : va_P D pt_cl (([] : va_W) ++ [(a, .inr (12, [.int 0, .ref q5, .null, .null, .int 0])), (q5, .inr (8, [.ref q5_9, .ref q16_9])), (q5_9, .inr (13, [.int 0, .ref x14, .int 0])), (q16_9, .inr (13, [.int 0, .ref x14, .int 0])), (q16, .inr (9, [.int 0, .int 0, .ref q12_21, .ref q20_21, .ref q27_21, .ref q35_21, .ref q41_21, .int 0, .int 0, .int 0, .ref a])), (q12_21, .inl (cA 0, 20, .inl (fun _ => 0))), (q20_21, .inl (cA 0, 20, .inl (fun _ => 0))), (q27_21, .inl (cA 0, 4, .inl (fun _ => 0))), (q35_21, .inl (cA 0, 30, .inl (fun _ => 0))), (q41_21, .inr (13, [.int 0, .ref x14, .int 0]))]) H := hP
  replace hD : va_D (va_A [(a, .inr (12, [.int 0, .null, .null, .null, .int 0]))] s.heap.size) (([] : va_W) ++ [(a, .inr (12, [.int 0, .ref q5, .null, .null, .int 0])), (q5, .inr (8, [.ref q5_9, .ref q16_9])), (q5_9, .inr (13, [.int 0, .ref x14, .int 0])), (q16_9, .inr (13, [.int 0, .ref x14, .int 0])), (q16, .inr (9, [.int 0, .int 0, .ref q12_21, .ref q20_21, .ref q27_21, .ref q35_21, .ref q41_21, .int 0, .int 0, .int 0, .ref a])), (q12_21, .inl (cA 0, 20, .inl (fun _ => 0))), (q20_21, .inl (cA 0, 20, .inl (fun _ => 0))), (q27_21, .inl (cA 0, 4, .inl (fun _ => 0))), (q35_21, .inl (cA 0, 30, .inl (fun _ => 0))), (q41_21, .inr (13, [.int 0, .ref x14, .int 0]))]) := hD
  refine W.widen (k := 9) (n := 96) (Nat.le_of_ble_eq_true rfl) (Nat.le_of_ble_eq_true rfl) ?_
  refine sx_putF (Y' := [(a, .inr (12, [.int 0, .ref q5, .ref q16, .null, .int 0])), (q5, .inr (8, [.ref q5_9, .ref q16_9])), (q5_9, .inr (13, [.int 0, .ref x14, .int 0])), (q16_9, .inr (13, [.int 0, .ref x14, .int 0])), (q16, .inr (9, [.int 0, .int 0, .ref q12_21, .ref q20_21, .ref q27_21, .ref q35_21, .ref q41_21, .int 0, .int 0, .int 0, .ref a])), (q12_21, .inl (cA 0, 20, .inl (fun _ => 0))), (q20_21, .inl (cA 0, 20, .inl (fun _ => 0))), (q27_21, .inl (cA 0, 4, .inl (fun _ => 0))), (q35_21, .inl (cA 0, 30, .inl (fun _ => 0))), (q41_21, .inr (13, [.int 0, .ref x14, .int 0]))]) F hP hD hS hin 0 rfl inX12 tyX12 tyX12_ok nmX12 rfl 2 (by decide) kw_1142 rfl rfl rfl rfl rfl (Nat.le_of_ble_eq_true rfl) rfl dX12_init_24 (fun H locs hP hD hS => ?_)
  refine lv_aload_n hx hb dX12_init_27 rfl (lv_at hl 0 rfl) ?_
  refine lv_iconst (v := 0) hx hb dX12_init_28 (by decide) ?_
  refine pt_xnew (N := 0) F hP hD hS hA kw_128 (by decide) (by decide) (by decide) (Nat.le_trans (Nat.le_of_ble_eq_true rfl) s_cb) (Nat.le_trans (Nat.le_of_ble_eq_true rfl) s_sb) dX12_init_29 (fun q29 H hP hD hS => ?_)
  replace hP : va_P D pt_cl (([] : va_W) ++ [(a, .inr (12, [.int 0, .ref q5, .ref q16, .null, .int 0])), (q5, .inr (8, [.ref q5_9, .ref q16_9])), (q5_9, .inr (13, [.int 0, .ref x14, .int 0])), (q16_9, .inr (13, [.int 0, .ref x14, .int 0])), (q16, .inr (9, [.int 0, .int 0, .ref q12_21, .ref q20_21, .ref q27_21, .ref q35_21, .ref q41_21, .int 0, .int 0, .int 0, .ref a])), (q12_21, .inl (cA 0, 20, .inl (fun _ => 0))), (q20_21, .inl (cA 0, 20, .inl (fun _ => 0))), (q27_21, .inl (cA 0, 4, .inl (fun _ => 0))), (q35_21, .inl (cA 0, 30, .inl (fun _ => 0))), (q41_21, .inr (13, [.int 0, .ref x14, .int 0])), (q29, .inl (cA 0, 0, .inl (fun _ => 0)))]) H := hP
  replace hD : va_D (va_A [(a, .inr (12, [.int 0, .null, .null, .null, .int 0]))] s.heap.size) (([] : va_W) ++ [(a, .inr (12, [.int 0, .ref q5, .ref q16, .null, .int 0])), (q5, .inr (8, [.ref q5_9, .ref q16_9])), (q5_9, .inr (13, [.int 0, .ref x14, .int 0])), (q16_9, .inr (13, [.int 0, .ref x14, .int 0])), (q16, .inr (9, [.int 0, .int 0, .ref q12_21, .ref q20_21, .ref q27_21, .ref q35_21, .ref q41_21, .int 0, .int 0, .int 0, .ref a])), (q12_21, .inl (cA 0, 20, .inl (fun _ => 0))), (q20_21, .inl (cA 0, 20, .inl (fun _ => 0))), (q27_21, .inl (cA 0, 4, .inl (fun _ => 0))), (q35_21, .inl (cA 0, 30, .inl (fun _ => 0))), (q41_21, .inr (13, [.int 0, .ref x14, .int 0])), (q29, .inl (cA 0, 0, .inl (fun _ => 0)))]) := hD
  refine W.widen (k := 10) (n := 96) (Nat.le_of_ble_eq_true rfl) (Nat.le_of_ble_eq_true rfl) ?_
  refine sx_put (Y' := [(a, .inr (12, [.int 0, .ref q5, .ref q16, .ref q29, .int 0])), (q5, .inr (8, [.ref q5_9, .ref q16_9])), (q5_9, .inr (13, [.int 0, .ref x14, .int 0])), (q16_9, .inr (13, [.int 0, .ref x14, .int 0])), (q16, .inr (9, [.int 0, .int 0, .ref q12_21, .ref q20_21, .ref q27_21, .ref q35_21, .ref q41_21, .int 0, .int 0, .int 0, .ref a])), (q12_21, .inl (cA 0, 20, .inl (fun _ => 0))), (q20_21, .inl (cA 0, 20, .inl (fun _ => 0))), (q27_21, .inl (cA 0, 4, .inl (fun _ => 0))), (q35_21, .inl (cA 0, 30, .inl (fun _ => 0))), (q41_21, .inr (13, [.int 0, .ref x14, .int 0])), (q29, .inl (cA 0, 0, .inl (fun _ => 0)))]) F hP hD hS 0 rfl inX12 tyX12 tyX12_ok nmX12 rfl 3 (by decide) kw_1143 rfl rfl rfl rfl (Nat.le_of_ble_eq_true rfl) rfl dX12_init_31 (fun H locs hP hD hS => ?_)
  refine lv_aload_n hx hb dX12_init_34 rfl (lv_at hl 0 rfl) ?_
  refine sx_get F hP 0 rfl inX12 rfl 1 (by decide) kw_1140 rfl rfl dX12_init_35 ?_
  refine sx_get F hP 1 rfl inX8 rfl 0 (by decide) kw_985 rfl rfl dX12_init_38 ?_
  refine pt_ynew (ci := 10) (fs := [.int 0, .int 0, .int 0, .null, .null]) F hP hD hS hA inX10 tyX10 tyX10_ok kw_1046 kw_1047 kw_66 rfl (fun j hj => by rcases (show j = 0 ∨ j = 1 ∨ j = 2 ∨ j = 3 ∨ j = 4 by omega) with rfl | rfl | rfl | rfl | rfl <;> rfl) (Nat.le_trans (Nat.le_of_ble_eq_true rfl) s_cb) (Nat.le_trans (Nat.le_of_ble_eq_true rfl) s_sb) dX12_init_41 (fun q41 H hP hD hS => ?_)
  replace hP : va_P D pt_cl (([] : va_W) ++ [(a, .inr (12, [.int 0, .ref q5, .ref q16, .ref q29, .int 0])), (q5, .inr (8, [.ref q5_9, .ref q16_9])), (q5_9, .inr (13, [.int 0, .ref x14, .int 0])), (q16_9, .inr (13, [.int 0, .ref x14, .int 0])), (q16, .inr (9, [.int 0, .int 0, .ref q12_21, .ref q20_21, .ref q27_21, .ref q35_21, .ref q41_21, .int 0, .int 0, .int 0, .ref a])), (q12_21, .inl (cA 0, 20, .inl (fun _ => 0))), (q20_21, .inl (cA 0, 20, .inl (fun _ => 0))), (q27_21, .inl (cA 0, 4, .inl (fun _ => 0))), (q35_21, .inl (cA 0, 30, .inl (fun _ => 0))), (q41_21, .inr (13, [.int 0, .ref x14, .int 0])), (q29, .inl (cA 0, 0, .inl (fun _ => 0))), (q41, .inr (10, [.int 0, .int 0, .int 0, .null, .null]))]) H := hP
  replace hD : va_D (va_A [(a, .inr (12, [.int 0, .null, .null, .null, .int 0]))] s.heap.size) (([] : va_W) ++ [(a, .inr (12, [.int 0, .ref q5, .ref q16, .ref q29, .int 0])), (q5, .inr (8, [.ref q5_9, .ref q16_9])), (q5_9, .inr (13, [.int 0, .ref x14, .int 0])), (q16_9, .inr (13, [.int 0, .ref x14, .int 0])), (q16, .inr (9, [.int 0, .int 0, .ref q12_21, .ref q20_21, .ref q27_21, .ref q35_21, .ref q41_21, .int 0, .int 0, .int 0, .ref a])), (q12_21, .inl (cA 0, 20, .inl (fun _ => 0))), (q20_21, .inl (cA 0, 20, .inl (fun _ => 0))), (q27_21, .inl (cA 0, 4, .inl (fun _ => 0))), (q35_21, .inl (cA 0, 30, .inl (fun _ => 0))), (q41_21, .inr (13, [.int 0, .ref x14, .int 0])), (q29, .inl (cA 0, 0, .inl (fun _ => 0))), (q41, .inr (10, [.int 0, .int 0, .int 0, .null, .null]))]) := hD
  refine W.widen (k := 11) (n := 101) (Nat.le_of_ble_eq_true rfl) (Nat.le_of_ble_eq_true rfl) ?_
  refine lv_dup hx hb dX12_init_44 rfl ?_
  refine lv_iconst (v := (-1)) hx hb dX12_init_45 (by decide) ?_
  refine lv_iconst (v := 0) hx hb dX12_init_46 (by decide) ?_
  refine sx_callv (wc := [(q41, .inr (10, [.int 0, .int 0, .int 0, .null, .null]))]) (wr := [(a, .inr (12, [.int 0, .ref q5, .ref q16, .ref q29, .int 0])), (q5, .inr (8, [.ref q5_9, .ref q16_9])), (q5_9, .inr (13, [.int 0, .ref x14, .int 0])), (q16_9, .inr (13, [.int 0, .ref x14, .int 0])), (q16, .inr (9, [.int 0, .int 0, .ref q12_21, .ref q20_21, .ref q27_21, .ref q35_21, .ref q41_21, .int 0, .int 0, .int 0, .ref a])), (q12_21, .inl (cA 0, 20, .inl (fun _ => 0))), (q20_21, .inl (cA 0, 20, .inl (fun _ => 0))), (q27_21, .inl (cA 0, 4, .inl (fun _ => 0))), (q35_21, .inl (cA 0, 30, .inl (fun _ => 0))), (q41_21, .inr (13, [.int 0, .ref x14, .int 0])), (q29, .inl (cA 0, 0, .inl (fun _ => 0)))]) (pt_krun (n := 2) (As := [.int (-1), .int 0]) (rest := [.ref q41, .ref q5_9]) F (mtST l D cA _ x13 x14 q41 ((-1)) 0 ) sx_blind (sx_pre (wc := [(q41, .inr (10, [.int 0, .int 0, .int 0, .null, .null]))]) F hP hD hN hS hA [11] rfl rfl) kw_1050 (Or.inl kw_1048) kw_66 kw_1049 rfl ⟨by decide, by decide, by decide +kernel⟩ ⟨rfl, rfl, (Nat.le_of_ble_eq_true rfl), (Nat.le_of_ble_eq_true rfl)⟩ rfl hl.1 rfl (Nat.le_of_ble_eq_true rfl) dX12_init_47 ⟨(Nat.le_trans (Nat.le_of_ble_eq_true rfl) s_cb), (Nat.le_trans (Nat.le_of_ble_eq_true rfl) s_sb)⟩) hP hD hS hA [11] [0, 1, 2, 3, 4, 5, 6, 7, 8, 9, 10] rfl rfl rfl (by decide) (fun _ H locs _ hP hD hS => ?_)
  replace hP : va_P D pt_cl (([] : va_W) ++ [(a, .inr (12, [.int 0, .ref q5, .ref q16, .ref q29, .int 0])), (q5, .inr (8, [.ref q5_9, .ref q16_9])), (q5_9, .inr (13, [.int 0, .ref x14, .int 0])), (q16_9, .inr (13, [.int 0, .ref x14, .int 0])), (q16, .inr (9, [.int 0, .int 0, .ref q12_21, .ref q20_21, .ref q27_21, .ref q35_21, .ref q41_21, .int 0, .int 0, .int 0, .ref a])), (q12_21, .inl (cA 0, 20, .inl (fun _ => 0))), (q20_21, .inl (cA 0, 20, .inl (fun _ => 0))), (q27_21, .inl (cA 0, 4, .inl (fun _ => 0))), (q35_21, .inl (cA 0, 30, .inl (fun _ => 0))), (q41_21, .inr (13, [.int 0, .ref x14, .int 0])), (q29, .inl (cA 0, 0, .inl (fun _ => 0))), (q41, .inr (10, [.int (-1), .int 0, .int (-1), .ref x13, .ref x13]))]) H := hP
  replace hD : va_D (va_A [(a, .inr (12, [.int 0, .null, .null, .null, .int 0]))] s.heap.size) (([] : va_W) ++ [(a, .inr (12, [.int 0, .ref q5, .ref q16, .ref q29, .int 0])), (q5, .inr (8, [.ref q5_9, .ref q16_9])), (q5_9, .inr (13, [.int 0, .ref x14, .int 0])), (q16_9, .inr (13, [.int 0, .ref x14, .int 0])), (q16, .inr (9, [.int 0, .int 0, .ref q12_21, .ref q20_21, .ref q27_21, .ref q35_21, .ref q41_21, .int 0, .int 0, .int 0, .ref a])), (q12_21, .inl (cA 0, 20, .inl (fun _ => 0))), (q20_21, .inl (cA 0, 20, .inl (fun _ => 0))), (q27_21, .inl (cA 0, 4, .inl (fun _ => 0))), (q35_21, .inl (cA 0, 30, .inl (fun _ => 0))), (q41_21, .inr (13, [.int 0, .ref x14, .int 0])), (q29, .inl (cA 0, 0, .inl (fun _ => 0))), (q41, .inr (10, [.int (-1), .int 0, .int (-1), .ref x13, .ref x13]))]) := hD
  refine W.widen (k := 11) (n := 101) (Nat.le_of_ble_eq_true rfl) (Nat.le_of_ble_eq_true rfl) ?_
  refine sx_calli (wc := [(q5_9, .inr (13, [.int 0, .ref x14, .int 0])), (q41, .inr (10, [.int (-1), .int 0, .int (-1), .ref x13, .ref x13]))]) (wr := [(a, .inr (12, [.int 0, .ref q5, .ref q16, .ref q29, .int 0])), (q5, .inr (8, [.ref q5_9, .ref q16_9])), (q16_9, .inr (13, [.int 0, .ref x14, .int 0])), (q16, .inr (9, [.int 0, .int 0, .ref q12_21, .ref q20_21, .ref q27_21, .ref q35_21, .ref q41_21, .int 0, .int 0, .int 0, .ref a])), (q12_21, .inl (cA 0, 20, .inl (fun _ => 0))), (q20_21, .inl (cA 0, 20, .inl (fun _ => 0))), (q27_21, .inl (cA 0, 4, .inl (fun _ => 0))), (q35_21, .inl (cA 0, 30, .inl (fun _ => 0))), (q41_21, .inr (13, [.int 0, .ref x14, .int 0])), (q29, .inl (cA 0, 0, .inl (fun _ => 0)))]) (sx_runV (n := 1) (As := [.ref q41]) (rest := []) F hP 2 rfl rfl (mtA1f l D cA _ x13 x14 q5_9 q41 0 10 ([.int (-1), .int 0, .int (-1), .ref x13, .ref x13]) (show pt_cl[10]? = some (RX10, TX10, 5) from rfl) kw_1655) sx_blind (sx_pre (wc := [(q5_9, .inr (13, [.int 0, .ref x14, .int 0])), (q41, .inr (10, [.int (-1), .int 0, .int (-1), .ref x13, .ref x13]))]) F hP hD hN hS hA [2, 11] rfl rfl) kw_1083 kw_1080 kw_64 kw_1081 kw_1082 ⟨by decide, by decide, by decide +kernel⟩ ⟨rfl, rfl, (Nat.le_of_ble_eq_true rfl), (Nat.le_of_ble_eq_true rfl)⟩ rfl hl.1 rfl (Nat.le_of_ble_eq_true rfl) dX12_init_50 ⟨(Nat.le_trans (Nat.le_of_ble_eq_true rfl) s_cb), (Nat.le_trans (Nat.le_of_ble_eq_true rfl) s_sb)⟩) hP hD hS hA [2, 11] [0, 1, 3, 4, 5, 6, 7, 8, 9, 10] rfl rfl rfl (by decide) (fun r_50 q52_7_7_20_50 H locs e_50 hP hD hS => ?_)
  obtain rfl := e_50
  replace hP : va_P D pt_cl (([] : va_W) ++ [(a, .inr (12, [.int 0, .ref q5, .ref q16, .ref q29, .int 0])), (q5, .inr (8, [.ref q5_9, .ref q16_9])), (q16_9, .inr (13, [.int 0, .ref x14, .int 0])), (q16, .inr (9, [.int 0, .int 0, .ref q12_21, .ref q20_21, .ref q27_21, .ref q35_21, .ref q41_21, .int 0, .int 0, .int 0, .ref a])), (q12_21, .inl (cA 0, 20, .inl (fun _ => 0))), (q20_21, .inl (cA 0, 20, .inl (fun _ => 0))), (q27_21, .inl (cA 0, 4, .inl (fun _ => 0))), (q35_21, .inl (cA 0, 30, .inl (fun _ => 0))), (q41_21, .inr (13, [.int 0, .ref x14, .int 0])), (q29, .inl (cA 0, 0, .inl (fun _ => 0))), (q41, .inr (10, [.int (-1), .int 0, .int (-1), .ref x13, .ref x13])), (q5_9, .inr (13, [.int (0 + 1), .ref q52_7_7_20_50, .int (0 + 1)])), (q52_7_7_20_50, .inl (cA 4, 10, .inr (.inr (.inr (.inr (fun i => if i = 0 then some q41 else none))))))]) H := hP
  replace hD : va_D (va_A [(a, .inr (12, [.int 0, .null, .null, .null, .int 0]))] s.heap.size) (([] : va_W) ++ [(a, .inr (12, [.int 0, .ref q5, .ref q16, .ref q29, .int 0])), (q5, .inr (8, [.ref q5_9, .ref q16_9])), (q16_9, .inr (13, [.int 0, .ref x14, .int 0])), (q16, .inr (9, [.int 0, .int 0, .ref q12_21, .ref q20_21, .ref q27_21, .ref q35_21, .ref q41_21, .int 0, .int 0, .int 0, .ref a])), (q12_21, .inl (cA 0, 20, .inl (fun _ => 0))), (q20_21, .inl (cA 0, 20, .inl (fun _ => 0))), (q27_21, .inl (cA 0, 4, .inl (fun _ => 0))), (q35_21, .inl (cA 0, 30, .inl (fun _ => 0))), (q41_21, .inr (13, [.int 0, .ref x14, .int 0])), (q29, .inl (cA 0, 0, .inl (fun _ => 0))), (q41, .inr (10, [.int (-1), .int 0, .int (-1), .ref x13, .ref x13])), (q5_9, .inr (13, [.int (0 + 1), .ref q52_7_7_20_50, .int (0 + 1)])), (q52_7_7_20_50, .inl (cA 4, 10, .inr (.inr (.inr (.inr (fun i => if i = 0 then some q41 else none))))))]) := hD
  refine W.widen (k := 12) (n := 111) (Nat.le_of_ble_eq_true rfl) (Nat.le_of_ble_eq_true rfl) ?_
  refine lv_pop hx hb dX12_init_53 rfl ?_
  exact W.vret hx hb hr (fun t ht hW => ⟨⟨(q5, q5_9, q16_9, q16, q12_21, q20_21, q27_21, q35_21, q41_21, q29, q41, q52_7_7_20_50), rfl, trivial, ⟨by rw [ht]; exact hP, hD⟩⟩, hS.F ht⟩) hS.2.2 dX12_init_54
