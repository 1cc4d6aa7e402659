-- ===== X7_isGuard
def wjX7_isGuard_36 (p1 : Int32) (p2 : Int32) (p3 : Int32) (Q : Int32 → pt_M → Prop)  (xs0 : Int32) (M : pt_M) : Prop :=
  pt_zb xs0 ∧ Q xs0 M
def wjX7_isGuard_35 (p1 : Int32) (p2 : Int32) (p3 : Int32) (Q : Int32 → pt_M → Prop)   (M : pt_M) : Prop :=
  wjX7_isGuard_36 p1 p2 p3 Q 0 M
def wpX7_isGuard (p1 : Int32) (p2 : Int32) (p3 : Int32) (M : pt_M) (Q : Int32 → pt_M → Prop) : Prop :=
  (¬ p1 = 0 → wpX7_isWithin p1 1 3 M (fun (r_9 : Int32) (M_9 : pt_M) => (r_9 = 0 → wjX7_isGuard_35 p1 p2 p3 Q M_9) ∧ (¬ r_9 = 0 → wpX7_isWithin p2 0 3 M_9 (fun (r_18 : Int32) (M_18 : pt_M) => (r_18 = 0 → wjX7_isGuard_35 p1 p2 p3 Q M_18) ∧ (¬ r_18 = 0 → wpX7_isNumber p3 M_18 (fun (r_25 : Int32) (M_25 : pt_M) => (r_25 = 0 → wjX7_isGuard_35 p1 p2 p3 Q M_25) ∧ (¬ r_25 = 0 → wjX7_isGuard_36 p1 p2 p3 Q 1 M_25))))))) ∧ (p1 = 0 → Q 1 M)
set_option maxHeartbeats 4000000 in
set_option maxRecDepth 100000 in
theorem mtX7_isGuard (l : Launch) (D : va_G) (cA : Nat → ClassId) (ad : Nat → Nat) (hI : pt_I ad) (sz : Nat) (p1 : Int32) (p2 : Int32) (p3 : Int32) (M : pt_M) (Q : Int32 → pt_M → Prop) (hw : wpX7_isGuard p1 p2 p3 M Q) : Met l yX7_isGuard (Cond.code yX7_isGuard cX7_isGuard 3 (some .boolean) :: lw_all) ({ frames := 2, cells := 0, slots := 0, locals := 42 } : Room) (va_Pc [.int p1, .int p2, .int p3] (pt_P D cA ad sz M)) (va_Qi Q (pt_B D cA ad) (pt_fr ad sz)) 0 0 (pt_fr ad sz) := by
  refine Met.ofW (cc := cX7_isGuard) (maxL := 3) (ret := (some .boolean)) (by decide) rfl ?_
  intro p e s m args below meth c s₁ B hml hv
  obtain ⟨rfl, hsz, hP, hK⟩ := hv
  have hx := B.exec
  have hb := B.bytes
  have hr := B.returns
  have hts0 := atoms_spec (ws := (Cond.code yX7_isGuard cX7_isGuard 3 (some .boolean) :: lw_all)) B.pre
  have hown : s.vm.findClass RX7 = some m.cls := findClass_of_methodNamed B.named
  have hlocks := B.notSynchronized
  subst hsz
  have F : pt_F p m c cX7_isGuard 3 s _ RX7 D cA := ⟨⟨hx, hb, hml, hown, fun w h => hts0 w (List.mem_cons_of_mem _ h)⟩, hK⟩
  have hD : ∀ M, va_D (pt_fr ad s.heap.size) (pt_W cA ad M) := pt_D hI (fun k h => Or.inl ⟨k, h, rfl⟩)
  have hS : va_S (pt_fr ad s.heap.size) s.heap s.heap [] := va_S.rf
  have hl := lv_entry ([.int p1, .int p2, .int p3]) (n := 3) (Nat.le_of_ble_eq_true rfl)
  rw [lg_entry_eq]
  generalize (lg_sl ([.int p1, .int p2, .int p3]) ++ List.replicate (3 - (lg_sl ([.int p1, .int p2, .int p3])).length) Slot.unset).toArray = ls at hl ⊢
  have hl : lv_has ls 3 [(0, .int p1), (1, .int p2), (2, .int p3)] := hl
  have J36 : ∀ (xs0 : Int32) (M : pt_M) (H : Heap) (locs : List Loc) (ls : Array Slot), wjX7_isGuard_36 p1 p2 p3 Q xs0 M → va_P D pt_cl (pt_W cA ad M) H → va_S (pt_fr ad s.heap.size) s.heap H locs → lv_has ls 3 [] → W p l e (headSpec (Cond.code yX7_isGuard cX7_isGuard 3 (some .boolean) :: lw_all) ({ frames := 2, cells := 0, slots := 0, locals := 42 } : Room)).room s m ([.int p1, .int p2, .int p3] : List Value).toArray below meth c H locs 0 0 (MQ below (va_Qi Q (pt_B D cA ad) (pt_fr ad s.heap.size)) ([.int p1, .int p2, .int p3] : List Value).toArray s 0 0 (pt_fr ad s.heap.size)) (F0 m 36 ls [.int xs0]) := by
    intro xs0 M H locs ls hw hP hS hl
    unfold wjX7_isGuard_36 at hw
    exact W.zret (v := xs0) (ty := .boolean) hx hb hr (pt_zb_n hw.1) (fun t ht hW => ⟨⟨xs0, M, rfl, hw.2, by unfold pt_B; rw [ht]; exact hP⟩, hS.F ht⟩) hS.2.2 dX7_isGuard_36
  have J35 : ∀ (M : pt_M) (H : Heap) (locs : List Loc) (ls : Array Slot), wjX7_isGuard_35 p1 p2 p3 Q M → va_P D pt_cl (pt_W cA ad M) H → va_S (pt_fr ad s.heap.size) s.heap H locs → lv_has ls 3 [] → W p l e (headSpec (Cond.code yX7_isGuard cX7_isGuard 3 (some .boolean) :: lw_all) ({ frames := 2, cells := 0, slots := 0, locals := 42 } : Room)).room s m ([.int p1, .int p2, .int p3] : List Value).toArray below meth c H locs 0 0 (MQ below (va_Qi Q (pt_B D cA ad) (pt_fr ad s.heap.size)) ([.int p1, .int p2, .int p3] : List Value).toArray s 0 0 (pt_fr ad s.heap.size)) (F0 m 35 ls []) := by
    intro M H locs ls hw hP hS hl
    unfold wjX7_isGuard_35 at hw
    refine lv_iconst (v := 0) hx hb dX7_isGuard_35 (by decide) ?_
    exact J36 0 M _ _ _ hw hP hS (lv_sub hl [] rfl)
  unfold wpX7_isGuard at hw
  refine lv_iload_n hx hb dX7_isGuard_0 rfl (lv_at hl 0 rfl) ?_
  refine lv_if_ne (tgt := 6) hx hb dX7_isGuard_1 (by decide) (fun hc1 => ?_) (fun hc1 => ?_)
  · replace hw := hw.1 hc1
    refine lv_iload_n hx hb dX7_isGuard_6 rfl (lv_at hl 0 rfl) ?_
    refine lv_iconst (v := 1) hx hb dX7_isGuard_7 (by decide) ?_
    refine lv_iconst (v := 3) hx hb dX7_isGuard_8 (by decide) ?_
    refine pt_calli (pt_runS (n := 3) (As := [.int p1, .int 1, .int 3]) (rest := []) F hP (mtX7_isWithin l D cA ad hI _ p1 1 3 M _ hw) kw_432 kw_430 kw_52 kw_431 ⟨by decide, by decide, by decide +kernel⟩ ⟨rfl, rfl, Nat.le_of_ble_eq_true rfl, Nat.le_of_ble_eq_true rfl⟩ rfl hl.1 rfl (Nat.le_of_ble_eq_true rfl) dX7_isGuard_9 ⟨Nat.zero_le _, Nat.zero_le _⟩) hS (fun _ h => h) (fun r_9 M_9 H locs hw hP hS _ _ => ?_)
    refine lv_if_eq (tgt := 35) hx hb dX7_isGuard_12 (by decide) (fun hc12 => ?_) (fun hc12 => ?_)
    · replace hw := hw.1 hc12
      exact J35 M_9 _ _ _ hw hP hS (lv_sub hl [] rfl)
    · replace hw := hw.2 hc12
      refine lv_iload_n hx hb dX7_isGuard_15 rfl (lv_at hl 1 rfl) ?_
      refine lv_iconst (v := 0) hx hb dX7_isGuard_16 (by decide) ?_
      refine lv_iconst (v := 3) hx hb dX7_isGuard_17 (by decide) ?_
      refine pt_calli (pt_runS (n := 3) (As := [.int p2, .int 0, .int 3]) (rest := []) F hP (mtX7_isWithin l D cA ad hI _ p2 0 3 M_9 _ hw) kw_432 kw_430 kw_52 kw_431 ⟨by decide, by decide, by decide +kernel⟩ ⟨rfl, rfl, Nat.le_of_ble_eq_true rfl, Nat.le_of_ble_eq_true rfl⟩ rfl hl.1 rfl (Nat.le_of_ble_eq_true rfl) dX7_isGuard_18 ⟨Nat.zero_le _, Nat.zero_le _⟩) hS (fun _ h => h) (fun r_18 M_18 H locs hw hP hS _ _ => ?_)
      refine lv_if_eq (tgt := 35) hx hb dX7_isGuard_21 (by decide) (fun hc21 => ?_) (fun hc21 => ?_)
      · replace hw := hw.1 hc21
        exact J35 M_18 _ _ _ hw hP hS (lv_sub hl [] rfl)
      · replace hw := hw.2 hc21
        refine lv_iload_n hx hb dX7_isGuard_24 rfl (lv_at hl 2 rfl) ?_
        refine pt_calli (pt_runS (n := 1) (As := [.int p3]) (rest := []) F hP (mtX7_isNumber l D cA ad hI _ p3 M_18 _ hw) kw_653 kw_651 kw_52 kw_652 ⟨by decide, by decide, by decide +kernel⟩ ⟨rfl, rfl, Nat.le_of_ble_eq_true rfl, Nat.le_of_ble_eq_true rfl⟩ rfl hl.1 rfl (Nat.le_of_ble_eq_true rfl) dX7_isGuard_25 ⟨Nat.zero_le _, Nat.zero_le _⟩) hS (fun _ h => h) (fun r_25 M_25 H locs hw hP hS _ _ => ?_)
        refine lv_if_eq (tgt := 35) hx hb dX7_isGuard_28 (by decide) (fun hc28 => ?_) (fun hc28 => ?_)
        · replace hw := hw.1 hc28
          exact J35 M_25 _ _ _ hw hP hS (lv_sub hl [] rfl)
        · replace hw := hw.2 hc28
          refine lv_iconst (v := 1) hx hb dX7_isGuard_31 (by decide) ?_
          refine lv_goto (tgt := 36) hx hb dX7_isGuard_32 (by decide) ?_
          exact J36 1 M_25 _ _ _ hw hP hS (lv_sub hl [] rfl)
  · replace hw := hw.2 hc1
    refine lv_iconst (v := 1) hx hb dX7_isGuard_4 (by decide) ?_
    exact W.zret (v := 1) (ty := .boolean) hx hb hr rfl (fun t ht hW => ⟨⟨1, M, rfl, hw, by unfold pt_B; rw [ht]; exact hP⟩, hS.F ht⟩) hS.2.2 dX7_isGuard_5
-- ===== X7_isAction
def wjX7_isAction_49 (p1 : Int32) (p2 : Int32) (p3 : Int32) (Q : Int32 → pt_M → Prop)  (xs0 : Int32) (M : pt_M) : Prop :=
  pt_zb xs0 ∧ Q xs0 M
def wjX7_isAction_48 (p1 : Int32) (p2 : Int32) (p3 : Int32) (Q : Int32 → pt_M → Prop)   (M : pt_M) : Prop :=
  wjX7_isAction_49 p1 p2 p3 Q 0 M
def wpX7_isAction (p1 : Int32) (p2 : Int32) (p3 : Int32) (M : pt_M) (Q : Int32 → pt_M → Prop) : Prop :=
  (¬ p1 = 0 → (¬ p1 = 3 → wpX7_isWithin p1 1 2 M (fun (r_22 : Int32) (M_22 : pt_M) => (r_22 = 0 → wjX7_isAction_48 p1 p2 p3 Q M_22) ∧ (¬ r_22 = 0 → wpX7_isWithin p2 0 3 M_22 (fun (r_31 : Int32) (M_31 : pt_M) => (r_31 = 0 → wjX7_isAction_48 p1 p2 p3 Q M_31) ∧ (¬ r_31 = 0 → wpX7_isNumber p3 M_31 (fun (r_38 : Int32) (M_38 : pt_M) => (r_38 = 0 → wjX7_isAction_48 p1 p2 p3 Q M_38) ∧ (¬ r_38 = 0 → wjX7_isAction_49 p1 p2 p3 Q 1 M_38))))))) ∧ (p1 = 3 → wpX7_isWithin p2 0 9 M (fun (r_15 : Int32) (M_15 : pt_M) => pt_zb r_15 ∧ Q r_15 M_15))) ∧ (p1 = 0 → Q 1 M)
set_option maxHeartbeats 4000000 in
set_option maxRecDepth 100000 in
theorem mtX7_isAction (l : Launch) (D : va_G) (cA : Nat → ClassId) (ad : Nat → Nat) (hI : pt_I ad) (sz : Nat) (p1 : Int32) (p2 : Int32) (p3 : Int32) (M : pt_M) (Q : Int32 → pt_M → Prop) (hw : wpX7_isAction p1 p2 p3 M Q) : Met l yX7_isAction (Cond.code yX7_isAction cX7_isAction 3 (some .boolean) :: lw_all) ({ frames := 2, cells := 0, slots := 0, locals := 42 } : Room) (va_Pc [.int p1, .int p2, .int p3] (pt_P D cA ad sz M)) (va_Qi Q (pt_B D cA ad) (pt_fr ad sz)) 0 0 (pt_fr ad sz) := by
  refine Met.ofW (cc := cX7_isAction) (maxL := 3) (ret := (some .boolean)) (by decide) rfl ?_
  intro p e s m args below meth c s₁ B hml hv
  obtain ⟨rfl, hsz, hP, hK⟩ := hv
  have hx := B.exec
  have hb := B.bytes
  have hr := B.returns
  have hts0 := atoms_spec (ws := (Cond.code yX7_isAction cX7_isAction 3 (some .boolean) :: lw_all)) B.pre
  have hown : s.vm.findClass RX7 = some m.cls := findClass_of_methodNamed B.named
  have hlocks := B.notSynchronized
  subst hsz
  have F : pt_F p m c cX7_isAction 3 s _ RX7 D cA := ⟨⟨hx, hb, hml, hown, fun w h => hts0 w (List.mem_cons_of_mem _ h)⟩, hK⟩
  have hD : ∀ M, va_D (pt_fr ad s.heap.size) (pt_W cA ad M) := pt_D hI (fun k h => Or.inl ⟨k, h, rfl⟩)
  have hS : va_S (pt_fr ad s.heap.size) s.heap s.heap [] := va_S.rf
  have hl := lv_entry ([.int p1, .int p2, .int p3]) (n := 3) (Nat.le_of_ble_eq_true rfl)
  rw [lg_entry_eq]
  generalize (lg_sl ([.int p1, .int p2, .int p3]) ++ List.replicate (3 - (lg_sl ([.int p1, .int p2, .int p3])).length) Slot.unset).toArray = ls at hl ⊢
  have hl : lv_has ls 3 [(0, .int p1), (1, .int p2), (2, .int p3)] := hl
  have J49 : ∀ (xs0 : Int32) (M : pt_M) (H : Heap) (locs : List Loc) (ls : Array Slot), wjX7_isAction_49 p1 p2 p3 Q xs0 M → va_P D pt_cl (pt_W cA ad M) H → va_S (pt_fr ad s.heap.size) s.heap H locs → lv_has ls 3 [] → W p l e (headSpec (Cond.code yX7_isAction cX7_isAction 3 (some .boolean) :: lw_all) ({ frames := 2, cells := 0, slots := 0, locals := 42 } : Room)).room s m ([.int p1, .int p2, .int p3] : List Value).toArray below meth c H locs 0 0 (MQ below (va_Qi Q (pt_B D cA ad) (pt_fr ad s.heap.size)) ([.int p1, .int p2, .int p3] : List Value).toArray s 0 0 (pt_fr ad s.heap.size)) (F0 m 49 ls [.int xs0]) := by
    intro xs0 M H locs ls hw hP hS hl
    unfold wjX7_isAction_49 at hw
    exact W.zret (v := xs0) (ty := .boolean) hx hb hr (pt_zb_n hw.1) (fun t ht hW => ⟨⟨xs0, M, rfl, hw.2, by unfold pt_B; rw [ht]; exact hP⟩, hS.F ht⟩) hS.2.2 dX7_isAction_49
  have J48 : ∀ (M : pt_M) (H : Heap) (locs : List Loc) (ls : Array Slot), wjX7_isAction_48 p1 p2 p3 Q M → va_P D pt_cl (pt_W cA ad M) H → va_S (pt_fr ad s.heap.size) s.heap H locs → lv_has ls 3 [] → W p l e (headSpec (Cond.code yX7_isAction cX7_isAction 3 (some .boolean) :: lw_all) ({ frames := 2, cells := 0, slots := 0, locals := 42 } : Room)).room s m ([.int p1, .int p2, .int p3] : List Value).toArray below meth c H locs 0 0 (MQ below (va_Qi Q (pt_B D cA ad) (pt_fr ad s.heap.size)) ([.int p1, .int p2, .int p3] : List Value).toArray s 0 0 (pt_fr ad s.heap.size)) (F0 m 48 ls []) := by
    intro M H locs ls hw hP hS hl
    unfold wjX7_isAction_48 at hw
    refine lv_iconst (v := 0) hx hb dX7_isAction_48 (by decide) ?_
    exact J49 0 M _ _ _ hw hP hS (lv_sub hl [] rfl)
  unfold wpX7_isAction at hw
  refine lv_iload_n hx hb dX7_isAction_0 rfl (lv_at hl 0 rfl) ?_
  refine lv_if_ne (tgt := 6) hx hb dX7_isAction_1 (by decide) (fun hc1 => ?_) (fun hc1 => ?_)
  · replace hw := hw.1 hc1
    refine lv_iload_n hx hb dX7_isAction_6 rfl (lv_at hl 0 rfl) ?_
    refine lv_iconst (v := 3) hx hb dX7_isAction_7 (by decide) ?_
    refine lv_icmp_ne (tgt := 19) hx hb dX7_isAction_8 (by decide) (fun hc8 => ?_) (fun hc8 => ?_)
    · replace hw := hw.1 hc8
      refine lv_iload_n hx hb dX7_isAction_19 rfl (lv_at hl 0 rfl) ?_
      refine lv_iconst (v := 1) hx hb dX7_isAction_20 (by decide) ?_
      refine lv_iconst (v := 2) hx hb dX7_isAction_21 (by decide) ?_
      refine pt_calli (pt_runS (n := 3) (As := [.int p1, .int 1, .int 2]) (rest := []) F hP (mtX7_isWithin l D cA ad hI _ p1 1 2 M _ hw) kw_432 kw_430 kw_52 kw_431 ⟨by decide, by decide, by decide +kernel⟩ ⟨rfl, rfl, Nat.le_of_ble_eq_true rfl, Nat.le_of_ble_eq_true rfl⟩ rfl hl.1 rfl (Nat.le_of_ble_eq_true rfl) dX7_isAction_22 ⟨Nat.zero_le _, Nat.zero_le _⟩) hS (fun _ h => h) (fun r_22 M_22 H locs hw hP hS _ _ => ?_)
      refine lv_if_eq (tgt := 48) hx hb dX7_isAction_25 (by decide) (fun hc25 => ?_) (fun hc25 => ?_)
      · replace hw := hw.1 hc25
        exact J48 M_22 _ _ _ hw hP hS (lv_sub hl [] rfl)
      · replace hw := hw.2 hc25
        refine lv_iload_n hx hb dX7_isAction_28 rfl (lv_at hl 1 rfl) ?_
        refine lv_iconst (v := 0) hx hb dX7_isAction_29 (by decide) ?_
        refine lv_iconst (v := 3) hx hb dX7_isAction_30 (by decide) ?_
        refine pt_calli (pt_runS (n := 3) (As := [.int p2, .int 0, .int 3]) (rest := []) F hP (mtX7_isWithin l D cA ad hI _ p2 0 3 M_22 _ hw) kw_432 kw_430 kw_52 kw_431 ⟨by decide, by decide, by decide +kernel⟩ ⟨rfl, rfl, Nat.le_of_ble_eq_true rfl, Nat.le_of_ble_eq_true rfl⟩ rfl hl.1 rfl (Nat.le_of_ble_eq_true rfl) dX7_isAction_31 ⟨Nat.zero_le _, Nat.zero_le _⟩) hS (fun _ h => h) (fun r_31 M_31 H locs hw hP hS _ _ => ?_)
        refine lv_if_eq (tgt := 48) hx hb dX7_isAction_34 (by decide) (fun hc34 => ?_) (fun hc34 => ?_)
        · replace hw := hw.1 hc34
          exact J48 M_31 _ _ _ hw hP hS (lv_sub hl [] rfl)
        · replace hw := hw.2 hc34
          refine lv_iload_n hx hb dX7_isAction_37 rfl (lv_at hl 2 rfl) ?_
          refine pt_calli (pt_runS (n := 1) (As := [.int p3]) (rest := []) F hP (mtX7_isNumber l D cA ad hI _ p3 M_31 _ hw) kw_653 kw_651 kw_52 kw_652 ⟨by decide, by decide, by decide +kernel⟩ ⟨rfl, rfl, Nat.le_of_ble_eq_true rfl, Nat.le_of_ble_eq_true rfl⟩ rfl hl.1 rfl (Nat.le_of_ble_eq_true rfl) dX7_isAction_38 ⟨Nat.zero_le _, Nat.zero_le _⟩) hS (fun _ h => h) (fun r_38 M_38 H locs hw hP hS _ _ => ?_)
          refine lv_if_eq (tgt := 48) hx hb dX7_isAction_41 (by decide) (fun hc41 => ?_) (fun hc41 => ?_)
          · replace hw := hw.1 hc41
            exact J48 M_38 _ _ _ hw hP hS (lv_sub hl [] rfl)
          · replace hw := hw.2 hc41
            refine lv_iconst (v := 1) hx hb dX7_isAction_44 (by decide) ?_
            refine lv_goto (tgt := 49) hx hb dX7_isAction_45 (by decide) ?_
            exact J49 1 M_38 _ _ _ hw hP hS (lv_sub hl [] rfl)
    · replace hw := hw.2 hc8
      refine lv_iload_n hx hb dX7_isAction_11 rfl (lv_at hl 1 rfl) ?_
      refine lv_iconst (v := 0) hx hb dX7_isAction_12 (by decide) ?_
      refine lv_bipush (v := 9) hx hb dX7_isAction_13 (by decide) ?_
      refine pt_calli (pt_runS (n := 3) (As := [.int p2, .int 0, .int 9]) (rest := []) F hP (mtX7_isWithin l D cA ad hI _ p2 0 9 M _ hw) kw_432 kw_430 kw_52 kw_431 ⟨by decide, by decide, by decide +kernel⟩ ⟨rfl, rfl, Nat.le_of_ble_eq_true rfl, Nat.le_of_ble_eq_true rfl⟩ rfl hl.1 rfl (Nat.le_of_ble_eq_true rfl) dX7_isAction_15 ⟨Nat.zero_le _, Nat.zero_le _⟩) hS (fun _ h => h) (fun r_15 M_15 H locs hw hP hS _ _ => ?_)
      exact W.zret (v := r_15) (ty := .boolean) hx hb hr (pt_zb_n hw.1) (fun t ht hW => ⟨⟨r_15, M_15, rfl, hw.2, by unfold pt_B; rw [ht]; exact hP⟩, hS.F ht⟩) hS.2.2 dX7_isAction_18
  · replace hw := hw.2 hc1
    refine lv_iconst (v := 1) hx hb dX7_isAction_4 (by decide) ?_
    exact W.zret (v := 1) (ty := .boolean) hx hb hr rfl (fun t ht hW => ⟨⟨1, M, rfl, hw, by unfold pt_B; rw [ht]; exact hP⟩, hS.F ht⟩) hS.2.2 dX7_isAction_5
-- ===== X7_addState
def wjX7_addState_93 (p1 : Int32) (p2 : Int32) (Q : Int32 → pt_M → Prop)   (M : pt_M) : Prop :=
  wpX1_putState p1 p2 M (fun (r_99 : Int32) (M_99 : pt_M) => Q r_99 M_99)
def wjX7_addState_56 (p1 : Int32) (p2 : Int32) (Q : Int32 → pt_M → Prop)   (M : pt_M) : Prop :=
  False
def wjX7_addState_19 (p1 : Int32) (p2 : Int32) (Q : Int32 → pt_M → Prop)   (M : pt_M) : Prop :=
  False
def wpX7_addState (p1 : Int32) (p2 : Int32) (M : pt_M) (Q : Int32 → pt_M → Prop) : Prop :=
  (¬ (M 0 4) = 0 → wjX7_addState_19 p1 p2 Q M) ∧ ((M 0 4) = 0 → ((M 1 3) < 20 → wpX7_checkState p1 M (fun (M_29 : pt_M) => wpX7_isWithin p2 0 4 M_29 (fun (r_35 : Int32) (M_35 : pt_M) => (r_35 = 0 → wjX7_addState_56 p1 p2 Q M_35) ∧ (¬ r_35 = 0 → vp_in p1 20 ∧ (wpX5_isHolder (pt_s p1) M_35 (fun (r_50 : Int32) (M_50 : pt_M) => (¬ r_50 = 0 → (¬ p2 = 2 → wjX7_addState_93 p1 p2 Q M_50) ∧ (p2 = 2 → vp_in p1 20 ∧ ((¬ (M_50 (pt_s p1) 2) = 1 → wjX7_addState_93 p1 p2 Q M_50) ∧ ((M_50 (pt_s p1) 2) = 1 → False)))) ∧ (r_50 = 0 → wjX7_addState_56 p1 p2 Q M_50))))))) ∧ (¬ (M 1 3) < 20 → wjX7_addState_19 p1 p2 Q M))
set_option maxHeartbeats 4000000 in
set_option maxRecDepth 100000 in
theorem mtX7_addState (l : Launch) (D : va_G) (cA : Nat → ClassId) (ad : Nat → Nat) (hI : pt_I ad) (sz : Nat) (p1 : Int32) (p2 : Int32) (M : pt_M) (Q : Int32 → pt_M → Prop) (hw : wpX7_addState p1 p2 M Q) : Met l yX7_addState (Cond.code yX7_addState cX7_addState 3 (some .int) :: lw_all) ({ frames := 4, cells := 0, slots := 0, locals := 87 } : Room) (va_Pc [.ref (ad 0), .int p1, .int p2] (pt_P D cA ad sz M)) (va_Qi Q (pt_B D cA ad) (pt_fr ad sz)) 0 0 (pt_fr ad sz) := by
  refine Met.ofW (cc := cX7_addState) (maxL := 3) (ret := (some .int)) (by decide) rfl ?_
  intro p e s m args below meth c s₁ B hml hv
  obtain ⟨rfl, hsz, hP, hK⟩ := hv
  have hx := B.exec
  have hb := B.bytes
  have hr := B.returns
  have hts0 := atoms_spec (ws := (Cond.code yX7_addState cX7_addState 3 (some .int) :: lw_all)) B.pre
  have hown : s.vm.findClass RX7 = some m.cls := findClass_of_methodNamed B.named
  have hlocks := B.notSynchronized
  subst hsz
  have F : pt_F p m c cX7_addState 3 s _ RX7 D cA := ⟨⟨hx, hb, hml, hown, fun w h => hts0 w (List.mem_cons_of_mem _ h)⟩, hK⟩
  have hD : ∀ M, va_D (pt_fr ad s.heap.size) (pt_W cA ad M) := pt_D hI (fun k h => Or.inl ⟨k, h, rfl⟩)
  have hS : va_S (pt_fr ad s.heap.size) s.heap s.heap [] := va_S.rf
  have hl := lv_entry ([.ref (ad 0), .int p1, .int p2]) (n := 3) (Nat.le_of_ble_eq_true rfl)
  rw [lg_entry_eq]
  generalize (lg_sl ([.ref (ad 0), .int p1, .int p2]) ++ List.replicate (3 - (lg_sl ([.ref (ad 0), .int p1, .int p2])).length) Slot.unset).toArray = ls at hl ⊢
  have hl : lv_has ls 3 [(0, .ref (ad 0)), (1, .int p1), (2, .int p2)] := hl
  have J93 : ∀ (M : pt_M) (H : Heap) (locs : List Loc) (ls : Array Slot), wjX7_addState_93 p1 p2 Q M → va_P D pt_cl (pt_W cA ad M) H → va_S (pt_fr ad s.heap.size) s.heap H locs → lv_has ls 3 [(0, .ref (ad 0)), (1, .int p1), (2, .int p2)] → W p l e (headSpec (Cond.code yX7_addState cX7_addState 3 (some .int) :: lw_all) ({ frames := 4, cells := 0, slots := 0, locals := 87 } : Room)).room s m ([.ref (ad 0), .int p1, .int p2] : List Value).toArray below meth c H locs 0 0 (MQ below (va_Qi Q (pt_B D cA ad) (pt_fr ad s.heap.size)) ([.ref (ad 0), .int p1, .int p2] : List Value).toArray s 0 0 (pt_fr ad s.heap.size)) (F0 m 93 ls []) := by
    intro M H locs ls hw hP hS hl
    unfold wjX7_addState_93 at hw
    refine lv_aload_n hx hb dX7_addState_93 rfl (lv_at hl 0 rfl) ?_
    refine pt_get F hP (pt_c7 _ pt_k0) (pt_l7 pt_k0) inX7 rfl 0 (by decide) kw_370 rfl rfl dX7_addState_94 ?_
    refine lv_iload_n hx hb dX7_addState_97 rfl (lv_at hl 1 rfl) ?_
    refine lv_iload_n hx hb dX7_addState_98 rfl (lv_at hl 2 rfl) ?_
    refine pt_calli (pt_runV (n := 2) (As := [.int p1, .int p2]) (rest := []) F hP (pt_c1 _ pt_k1) (pt_l1 pt_k1) rfl (mtX1_putState l D cA ad hI _ p1 p2 M _ hw) kw_617 kw_614 kw_53 kw_615 kw_616 ⟨by decide, by decide, by decide +kernel⟩ ⟨rfl, rfl, Nat.le_of_ble_eq_true rfl, Nat.le_of_ble_eq_true rfl⟩ rfl hl.1 rfl (Nat.le_of_ble_eq_true rfl) dX7_addState_99 ⟨Nat.zero_le _, Nat.zero_le _⟩) hS (fun _ h => h) (fun r_99 M_99 H locs hw hP hS _ _ => ?_)
    exact W.iret (v := r_99) hx hb hr (fun t ht hW => ⟨⟨r_99, M_99, rfl, hw, by unfold pt_B; rw [ht]; exact hP⟩, hS.F ht⟩) hS.2.2 dX7_addState_102
  have J56 : ∀ (M : pt_M) (H : Heap) (locs : List Loc) (ls : Array Slot), wjX7_addState_56 p1 p2 Q M → va_P D pt_cl (pt_W cA ad M) H → va_S (pt_fr ad s.heap.size) s.heap H locs → lv_has ls 3 [] → W p l e (headSpec (Cond.code yX7_addState cX7_addState 3 (some .int) :: lw_all) ({ frames := 4, cells := 0, slots := 0, locals := 87 } : Room)).room s m ([.ref (ad 0), .int p1, .int p2] : List Value).toArray below meth c H locs 0 0 (MQ below (va_Qi Q (pt_B D cA ad) (pt_fr ad s.heap.size)) ([.ref (ad 0), .int p1, .int p2] : List Value).toArray s 0 0 (pt_fr ad s.heap.size)) (F0 m 56 ls []) := by
    intro M H locs ls hw hP hS hl
    unfold wjX7_addState_56 at hw
    exact hw.elim
  have J19 : ∀ (M : pt_M) (H : Heap) (locs : List Loc) (ls : Array Slot), wjX7_addState_19 p1 p2 Q M → va_P D pt_cl (pt_W cA ad M) H → va_S (pt_fr ad s.heap.size) s.heap H locs → lv_has ls 3 [] → W p l e (headSpec (Cond.code yX7_addState cX7_addState 3 (some .int) :: lw_all) ({ frames := 4, cells := 0, slots := 0, locals := 87 } : Room)).room s m ([.ref (ad 0), .int p1, .int p2] : List Value).toArray below meth c H locs 0 0 (MQ below (va_Qi Q (pt_B D cA ad) (pt_fr ad s.heap.size)) ([.ref (ad 0), .int p1, .int p2] : List Value).toArray s 0 0 (pt_fr ad s.heap.size)) (F0 m 19 ls []) := by
    intro M H locs ls hw hP hS hl
    unfold wjX7_addState_19 at hw
    exact hw.elim
  unfold wpX7_addState at hw
  refine lv_aload_n hx hb dX7_addState_0 rfl (lv_at hl 0 rfl) ?_
  refine pt_get F hP (pt_c7 _ pt_k0) (pt_l7 pt_k0) inX7 rfl 4 (by decide) kw_374 rfl rfl dX7_addState_1 ?_
  refine lv_if_ne (tgt := 19) hx hb dX7_addState_4 (by decide) (fun hc4 => ?_) (fun hc4 => ?_)
  · replace hw := hw.1 hc4
    exact J19 M _ _ _ hw hP hS (lv_sub hl [] rfl)
  · replace hw := hw.2 hc4
    refine lv_aload_n hx hb dX7_addState_7 rfl (lv_at hl 0 rfl) ?_
    refine pt_get F hP (pt_c7 _ pt_k0) (pt_l7 pt_k0) inX7 rfl 0 (by decide) kw_370 rfl rfl dX7_addState_8 ?_
    refine pt_get F hP (pt_c1 _ pt_k1) (pt_l1 pt_k1) inX1 rfl 3 (by decide) kw_231 rfl rfl dX7_addState_11 ?_
    refine lv_bipush (v := 20) hx hb dX7_addState_14 (by decide) ?_
    refine lv_icmp_lt (tgt := 27) hx hb dX7_addState_16 (by decide) (fun hc16 => ?_) (fun hc16 => ?_)
    · replace hw := hw.1 hc16
      refine lv_aload_n hx hb dX7_addState_27 rfl (lv_at hl 0 rfl) ?_
      refine lv_iload_n hx hb dX7_addState_28 rfl (lv_at hl 1 rfl) ?_
      refine pt_callv (pt_runV (n := 1) (As := [.int p1]) (rest := []) F hP (pt_c7 _ pt_k0) (pt_l7 pt_k0) rfl (mtX7_checkState l D cA ad hI _ p1 M _ hw) kw_481 kw_478 kw_52 kw_480 kw_1 ⟨by decide, by decide, by decide +kernel⟩ ⟨rfl, rfl, Nat.le_of_ble_eq_true rfl, Nat.le_of_ble_eq_true rfl⟩ rfl hl.1 rfl (Nat.le_of_ble_eq_true rfl) dX7_addState_29 ⟨Nat.zero_le _, Nat.zero_le _⟩) hS (fun _ h => h) (fun M_29 H locs hw hP hS _ _ => ?_)
      refine lv_iload_n hx hb dX7_addState_32 rfl (lv_at hl 2 rfl) ?_
      refine lv_iconst (v := 0) hx hb dX7_addState_33 (by decide) ?_
      refine lv_iconst (v := 4) hx hb dX7_addState_34 (by decide) ?_
      refine pt_calli (pt_runS (n := 3) (As := [.int p2, .int 0, .int 4]) (rest := []) F hP (mtX7_isWithin l D cA ad hI _ p2 0 4 M_29 _ hw) kw_432 kw_430 kw_52 kw_431 ⟨by decide, by decide, by decide +kernel⟩ ⟨rfl, rfl, Nat.le_of_ble_eq_true rfl, Nat.le_of_ble_eq_true rfl⟩ rfl hl.1 rfl (Nat.le_of_ble_eq_true rfl) dX7_addState_35 ⟨Nat.zero_le _, Nat.zero_le _⟩) hS (fun _ h => h) (fun r_35 M_35 H locs hw hP hS _ _ => ?_)
      refine lv_if_eq (tgt := 56) hx hb dX7_addState_38 (by decide) (fun hc38 => ?_) (fun hc38 => ?_)
      · replace hw := hw.1 hc38
        exact J56 M_35 _ _ _ hw hP hS (lv_sub hl [] rfl)
      · replace hw := hw.2 hc38
        refine lv_aload_n hx hb dX7_addState_41 rfl (lv_at hl 0 rfl) ?_
        refine pt_get F hP (pt_c7 _ pt_k0) (pt_l7 pt_k0) inX7 rfl 0 (by decide) kw_370 rfl rfl dX7_addState_42 ?_
        refine pt_get F hP (pt_c1 _ pt_k1) (pt_l1 pt_k1) inX1 rfl 0 (by decide) kw_223 rfl rfl dX7_addState_45 ?_
        refine lv_iload_n hx hb dX7_addState_48 rfl (lv_at hl 1 rfl) ?_
        have hv49 := hw.1
        replace hw := hw.2
        refine pt_alds F hP hv49 dX7_addState_49 ?_
        refine pt_calli (pt_runV (n := 0) (As := []) (rest := []) F hP (pt_c5 _ (pt_ks hv49)) (pt_l5 (pt_ks hv49)) rfl (mtX5_isHolder l D cA ad hI _ (pt_s p1) (pt_ks hv49) M_35 _ hw) kw_613 kw_610 kw_54 kw_611 kw_612 ⟨by decide, by decide, by decide +kernel⟩ ⟨rfl, rfl, Nat.le_of_ble_eq_true rfl, Nat.le_of_ble_eq_true rfl⟩ rfl hl.1 rfl (Nat.le_of_ble_eq_true rfl) dX7_addState_50 ⟨Nat.zero_le _, Nat.zero_le _⟩) hS (fun _ h => h) (fun r_50 M_50 H locs hw hP hS _ _ => ?_)
        refine lv_if_ne (tgt := 64) hx hb dX7_addState_53 (by decide) (fun hc53 => ?_) (fun hc53 => ?_)
        · replace hw := hw.1 hc53
          refine lv_iload_n hx hb dX7_addState_64 rfl (lv_at hl 2 rfl) ?_
          refine lv_iconst (v := 2) hx hb dX7_addState_65 (by decide) ?_
          refine lv_icmp_ne (tgt := 93) hx hb dX7_addState_66 (by decide) (fun hc66 => ?_) (fun hc66 => ?_)
          · replace hw := hw.1 hc66
            exact J93 M_50 _ _ _ hw hP hS (lv_sub hl [0, 1, 2] rfl)
          · replace hw := hw.2 hc66
            refine lv_aload_n hx hb dX7_addState_69 rfl (lv_at hl 0 rfl) ?_
            refine pt_get F hP (pt_c7 _ pt_k0) (pt_l7 pt_k0) inX7 rfl 0 (by decide) kw_370 rfl rfl dX7_addState_70 ?_
            refine pt_get F hP (pt_c1 _ pt_k1) (pt_l1 pt_k1) inX1 rfl 0 (by decide) kw_223 rfl rfl dX7_addState_73 ?_
            refine lv_iload_n hx hb dX7_addState_76 rfl (lv_at hl 1 rfl) ?_
            have hv77 := hw.1
            replace hw := hw.2
            refine pt_alds F hP hv77 dX7_addState_77 ?_
            refine pt_get F hP (pt_c5 _ (pt_ks hv77)) (pt_l5 (pt_ks hv77)) inX5 rfl 2 (by decide) kw_137 rfl rfl dX7_addState_78 ?_
            refine lv_iconst (v := 1) hx hb dX7_addState_81 (by decide) ?_
            refine lv_icmp_ne (tgt := 93) hx hb dX7_addState_82 (by decide) (fun hc82 => ?_) (fun hc82 => ?_)
            · replace hw := hw.1 hc82
              exact J93 M_50 _ _ _ hw hP hS (lv_sub hl [0, 1, 2] rfl)
            · replace hw := hw.2 hc82
              exact hw.elim
        · replace hw := hw.2 hc53
          exact J56 M_50 _ _ _ hw hP hS (lv_sub hl [] rfl)
    · replace hw := hw.2 hc16
      exact J19 M _ _ _ hw hP hS (lv_sub hl [] rfl)
-- ===== X7_setFirst
def wjX7_setFirst_42 (p1 : Int32) (p2 : Int32) (Q : Int32 → pt_M → Prop)   (M : pt_M) : Prop :=
  False
def wpX7_setFirst (p1 : Int32) (p2 : Int32) (M : pt_M) (Q : Int32 → pt_M → Prop) : Prop :=
  wpX7_checkResting M (fun (M_1 : pt_M) => wpX7_checkState p1 M_1 (fun (M_6 : pt_M) => wpX7_checkState p2 M_6 (fun (M_11 : pt_M) => vp_in p1 20 ∧ ((¬ (M_11 (pt_s p1) 2) = 0 → wjX7_setFirst_42 p1 p2 Q M_11) ∧ ((M_11 (pt_s p1) 2) = 0 → wpX7_has (M_11 (pt_s p1) 5) p2 M_11 (fun (r_36 : Int32) (M_36 : pt_M) => (¬ r_36 = 0 → ∀ x4_54 : Int32, x4_54 = (M_36 (pt_s p1) 4) → wpX5_putFirst (pt_s p1) p2 M_36 (fun (M_58 : pt_M) => Q x4_54 M_58)) ∧ (r_36 = 0 → wjX7_setFirst_42 p1 p2 Q M_36)))))))
set_option maxHeartbeats 4000000 in
set_option maxRecDepth 100000 in
theorem mtX7_setFirst (l : Launch) (D : va_G) (cA : Nat → ClassId) (ad : Nat → Nat) (hI : pt_I ad) (sz : Nat) (p1 : Int32) (p2 : Int32) (M : pt_M) (Q : Int32 → pt_M → Prop) (hw : wpX7_setFirst p1 p2 M Q) : Met l yX7_setFirst (Cond.code yX7_setFirst cX7_setFirst 5 (some .int) :: lw_all) ({ frames := 2, cells := 0, slots := 0, locals := 43 } : Room) (va_Pc [.ref (ad 0), .int p1, .int p2] (pt_P D cA ad sz M)) (va_Qi Q (pt_B D cA ad) (pt_fr ad sz)) 0 0 (pt_fr ad sz) := by
  refine Met.ofW (cc := cX7_setFirst) (maxL := 5) (ret := (some .int)) (by decide) rfl ?_
  intro p e s m args below meth c s₁ B hml hv
  obtain ⟨rfl, hsz, hP, hK⟩ := hv
  have hx := B.exec
  have hb := B.bytes
  have hr := B.returns
  have hts0 := atoms_spec (ws := (Cond.code yX7_setFirst cX7_setFirst 5 (some .int) :: lw_all)) B.pre
  have hown : s.vm.findClass RX7 = some m.cls := findClass_of_methodNamed B.named
  have hlocks := B.notSynchronized
  subst hsz
  have F : pt_F p m c cX7_setFirst 5 s _ RX7 D cA := ⟨⟨hx, hb, hml, hown, fun w h => hts0 w (List.mem_cons_of_mem _ h)⟩, hK⟩
  have hD : ∀ M, va_D (pt_fr ad s.heap.size) (pt_W cA ad M) := pt_D hI (fun k h => Or.inl ⟨k, h, rfl⟩)
  have hS : va_S (pt_fr ad s.heap.size) s.heap s.heap [] := va_S.rf
  have hl := lv_entry ([.ref (ad 0), .int p1, .int p2]) (n := 5) (Nat.le_of_ble_eq_true rfl)
  rw [lg_entry_eq]
  generalize (lg_sl ([.ref (ad 0), .int p1, .int p2]) ++ List.replicate (5 - (lg_sl ([.ref (ad 0), .int p1, .int p2])).length) Slot.unset).toArray = ls at hl ⊢
  have hl : lv_has ls 5 [(0, .ref (ad 0)), (1, .int p1), (2, .int p2)] := hl
  have J42 : ∀ (M : pt_M) (H : Heap) (locs : List Loc) (ls : Array Slot), wjX7_setFirst_42 p1 p2 Q M → va_P D pt_cl (pt_W cA ad M) H → va_S (pt_fr ad s.heap.size) s.heap H locs → lv_has ls 5 [] → W p l e (headSpec (Cond.code yX7_setFirst cX7_setFirst 5 (some .int) :: lw_all) ({ frames := 2, cells := 0, slots := 0, locals := 43 } : Room)).room s m ([.ref (ad 0), .int p1, .int p2] : List Value).toArray below meth c H locs 0 0 (MQ below (va_Qi Q (pt_B D cA ad) (pt_fr ad s.heap.size)) ([.ref (ad 0), .int p1, .int p2] : List Value).toArray s 0 0 (pt_fr ad s.heap.size)) (F0 m 42 ls []) := by
    intro M H locs ls hw hP hS hl
    unfold wjX7_setFirst_42 at hw
    exact hw.elim
  unfold wpX7_setFirst at hw
  refine lv_aload_n hx hb dX7_setFirst_0 rfl (lv_at hl 0 rfl) ?_
  refine pt_callv (pt_runV (n := 0) (As := []) (rest := []) F hP (pt_c7 _ pt_k0) (pt_l7 pt_k0) rfl (mtX7_checkResting l D cA ad hI _ M _ hw) kw_639 kw_636 kw_52 kw_638 kw_4 ⟨by decide, by decide, by decide +kernel⟩ ⟨rfl, rfl, Nat.le_of_ble_eq_true rfl, Nat.le_of_ble_eq_true rfl⟩ rfl hl.1 rfl (Nat.le_of_ble_eq_true rfl) dX7_setFirst_1 ⟨Nat.zero_le _, Nat.zero_le _⟩) hS (fun _ h => h) (fun M_1 H locs hw hP hS _ _ => ?_)
  refine lv_aload_n hx hb dX7_setFirst_4 rfl (lv_at hl 0 rfl) ?_
  refine lv_iload_n hx hb dX7_setFirst_5 rfl (lv_at hl 1 rfl) ?_
  refine pt_callv (pt_runV (n := 1) (As := [.int p1]) (rest := []) F hP (pt_c7 _ pt_k0) (pt_l7 pt_k0) rfl (mtX7_checkState l D cA ad hI _ p1 M_1 _ hw) kw_481 kw_478 kw_52 kw_480 kw_1 ⟨by decide, by decide, by decide +kernel⟩ ⟨rfl, rfl, Nat.le_of_ble_eq_true rfl, Nat.le_of_ble_eq_true rfl⟩ rfl hl.1 rfl (Nat.le_of_ble_eq_true rfl) dX7_setFirst_6 ⟨Nat.zero_le _, Nat.zero_le _⟩) hS (fun _ h => h) (fun M_6 H locs hw hP hS _ _ => ?_)
  refine lv_aload_n hx hb dX7_setFirst_9 rfl (lv_at hl 0 rfl) ?_
  refine lv_iload_n hx hb dX7_setFirst_10 rfl (lv_at hl 2 rfl) ?_
  refine pt_callv (pt_runV (n := 1) (As := [.int p2]) (rest := []) F hP (pt_c7 _ pt_k0) (pt_l7 pt_k0) rfl (mtX7_checkState l D cA ad hI _ p2 M_6 _ hw) kw_481 kw_478 kw_52 kw_480 kw_1 ⟨by decide, by decide, by decide +kernel⟩ ⟨rfl, rfl, Nat.le_of_ble_eq_true rfl, Nat.le_of_ble_eq_true rfl⟩ rfl hl.1 rfl (Nat.le_of_ble_eq_true rfl) dX7_setFirst_11 ⟨Nat.zero_le _, Nat.zero_le _⟩) hS (fun _ h => h) (fun M_11 H locs hw hP hS _ _ => ?_)
  refine lv_aload_n hx hb dX7_setFirst_14 rfl (lv_at hl 0 rfl) ?_
  refine pt_get F hP (pt_c7 _ pt_k0) (pt_l7 pt_k0) inX7 rfl 0 (by decide) kw_370 rfl rfl dX7_setFirst_15 ?_
  refine pt_get F hP (pt_c1 _ pt_k1) (pt_l1 pt_k1) inX1 rfl 0 (by decide) kw_223 rfl rfl dX7_setFirst_18 ?_
  refine lv_iload_n hx hb dX7_setFirst_21 rfl (lv_at hl 1 rfl) ?_
  have hv22 := hw.1
  replace hw := hw.2
  refine pt_alds F hP hv22 dX7_setFirst_22 ?_
  refine lv_astore_n (lv' := [(3, .ref (ad (pt_s p1))), (0, .ref (ad 0)), (1, .int p1), (2, .int p2)]) hx hb dX7_setFirst_23 rfl hl (by decide) rfl (fun ls hl => ?_)
  refine lv_aload_n hx hb dX7_setFirst_24 rfl (lv_at hl 0 rfl) ?_
  refine pt_get F hP (pt_c5 _ (pt_ks hv22)) (pt_l5 (pt_ks hv22)) inX5 rfl 2 (by decide) kw_137 rfl rfl dX7_setFirst_25 ?_
  refine lv_if_ne (tgt := 42) hx hb dX7_setFirst_28 (by decide) (fun hc28 => ?_) (fun hc28 => ?_)
  · replace hw := hw.1 hc28
    exact J42 M_11 _ _ _ hw hP hS (lv_sub hl [] rfl)
  · replace hw := hw.2 hc28
    refine lv_aload_n hx hb dX7_setFirst_31 rfl (lv_at hl 0 rfl) ?_
    refine pt_get F hP (pt_c5 _ (pt_ks hv22)) (pt_l5 (pt_ks hv22)) inX5 rfl 5 (by decide) kw_146 rfl rfl dX7_setFirst_32 ?_
    refine lv_iload_n hx hb dX7_setFirst_35 rfl (lv_at hl 3 rfl) ?_
    refine pt_calli (pt_runS (n := 2) (As := [.int (M_11 (pt_s p1) 5), .int p2]) (rest := []) F hP (mtX7_has l D cA ad hI _ (M_11 (pt_s p1) 5) p2 M_11 _ hw) kw_449 kw_447 kw_52 kw_448 ⟨by decide, by decide, by decide +kernel⟩ ⟨rfl, rfl, Nat.le_of_ble_eq_true rfl, Nat.le_of_ble_eq_true rfl⟩ rfl hl.1 rfl (Nat.le_of_ble_eq_true rfl) dX7_setFirst_36 ⟨Nat.zero_le _, Nat.zero_le _⟩) hS (fun _ h => h) (fun r_36 M_36 H locs hw hP hS _ _ => ?_)
    refine lv_if_ne (tgt := 50) hx hb dX7_setFirst_39 (by decide) (fun hc39 => ?_) (fun hc39 => ?_)
    · replace hw := hw.1 hc39
      refine lv_aload_n hx hb dX7_setFirst_50 rfl (lv_at hl 0 rfl) ?_
      refine pt_get F hP (pt_c5 _ (pt_ks hv22)) (pt_l5 (pt_ks hv22)) inX5 rfl 4 (by decide) kw_144 rfl rfl dX7_setFirst_51 ?_
      refine lv_topi (fun x4_54 ex4_54 => ?_)
      replace hw := hw x4_54 ex4_54
      refine lv_istore (lv' := [(4, .int x4_54), (3, .ref (ad (pt_s p1))), (0, .ref (ad 0)), (1, .int p1), (2, .int p2)]) hx hb dX7_setFirst_54 hl (by decide) rfl (fun ls hl => ?_)
      refine lv_aload_n hx hb dX7_setFirst_56 rfl (lv_at hl 1 rfl) ?_
      refine lv_iload_n hx hb dX7_setFirst_57 rfl (lv_at hl 4 rfl) ?_
      refine pt_callv (pt_runV (n := 1) (As := [.int p2]) (rest := []) F hP (pt_c5 _ (pt_ks hv22)) (pt_l5 (pt_ks hv22)) rfl (mtX5_putFirst l D cA ad hI _ (pt_s p1) (pt_ks hv22) p2 M_36 _ hw) kw_627 kw_640 kw_54 kw_625 kw_626 ⟨by decide, by decide, by decide +kernel⟩ ⟨rfl, rfl, Nat.le_of_ble_eq_true rfl, Nat.le_of_ble_eq_true rfl⟩ rfl hl.1 rfl (Nat.le_of_ble_eq_true rfl) dX7_setFirst_58 ⟨Nat.zero_le _, Nat.zero_le _⟩) hS (fun _ h => h) (fun M_58 H locs hw hP hS _ _ => ?_)
      refine lv_iload hx hb dX7_setFirst_61 (lv_at hl 0 rfl) ?_
      exact W.iret (v := x4_54) hx hb hr (fun t ht hW => ⟨⟨x4_54, M_58, rfl, hw, by unfold pt_B; rw [ht]; exact hP⟩, hS.F ht⟩) hS.2.2 dX7_setFirst_63
    · replace hw := hw.2 hc39
      exact J42 M_36 _ _ _ hw hP hS (lv_sub hl [] rfl)
-- ===== X7_setDoing
def wjX7_setDoing_64 (p1 : Int32) (p2 : Int32) (p3 : Int32) (p4 : Int32) (p5 : Int32) (Q : Int32 → pt_M → Prop)  (qs0 : Nat) (M : pt_M) : Prop :=
  wpX0_become qs0 p3 p4 p5 M (fun (r_73 : Int32) (M_73 : pt_M) => Q r_73 M_73)
def wjX7_setDoing_39 (p1 : Int32) (p2 : Int32) (p3 : Int32) (p4 : Int32) (p5 : Int32) (Q : Int32 → pt_M → Prop)   (M : pt_M) : Prop :=
  False
def wpX7_setDoing (p1 : Int32) (p2 : Int32) (p3 : Int32) (p4 : Int32) (p5 : Int32) (M : pt_M) (Q : Int32 → pt_M → Prop) : Prop :=
  wpX7_checkResting M (fun (M_1 : pt_M) => wpX7_checkState p1 M_1 (fun (M_6 : pt_M) => vp_in p1 20 ∧ (wpX5_isMark (pt_s p1) M_6 (fun (r_22 : Int32) (M_22 : pt_M) => (¬ r_22 = 0 → wjX7_setDoing_39 p1 p2 p3 p4 p5 Q M_22) ∧ (r_22 = 0 → wpX7_isAction p3 p4 p5 M_22 (fun (r_33 : Int32) (M_33 : pt_M) => (¬ r_33 = 0 → (p2 = 0 → wjX7_setDoing_64 p1 p2 p3 p4 p5 Q ((pt_s p1) + 1) M_33) ∧ (¬ p2 = 0 → wjX7_setDoing_64 p1 p2 p3 p4 p5 Q ((pt_s p1) + 2) M_33)) ∧ (r_33 = 0 → wjX7_setDoing_39 p1 p2 p3 p4 p5 Q M_33)))))))
set_option maxHeartbeats 4000000 in
set_option maxRecDepth 100000 in
theorem mtX7_setDoing (l : Launch) (D : va_G) (cA : Nat → ClassId) (ad : Nat → Nat) (hI : pt_I ad) (sz : Nat) (p1 : Int32) (p2 : Int32) (p3 : Int32) (p4 : Int32) (p5 : Int32) (M : pt_M) (Q : Int32 → pt_M → Prop) (hw : wpX7_setDoing p1 p2 p3 p4 p5 M Q) : Met l yX7_setDoing (Cond.code yX7_setDoing cX7_setDoing 8 (some .int) :: lw_all) ({ frames := 3, cells := 0, slots := 0, locals := 64 } : Room) (va_Pc [.ref (ad 0), .int p1, .int p2, .int p3, .int p4, .int p5] (pt_P D cA ad sz M)) (va_Qi Q (pt_B D cA ad) (pt_fr ad sz)) 0 0 (pt_fr ad sz) := by
  refine Met.ofW (cc := cX7_setDoing) (maxL := 8) (ret := (some .int)) (by decide) rfl ?_
  intro p e s m args below meth c s₁ B hml hv
  obtain ⟨rfl, hsz, hP, hK⟩ := hv
  have hx := B.exec
  have hb := B.bytes
  have hr := B.returns
  have hts0 := atoms_spec (ws := (Cond.code yX7_setDoing cX7_setDoing 8 (some .int) :: lw_all)) B.pre
  have hown : s.vm.findClass RX7 = some m.cls := findClass_of_methodNamed B.named
  have hlocks := B.notSynchronized
  subst hsz
  have F : pt_F p m c cX7_setDoing 8 s _ RX7 D cA := ⟨⟨hx, hb, hml, hown, fun w h => hts0 w (List.mem_cons_of_mem _ h)⟩, hK⟩
  have hD : ∀ M, va_D (pt_fr ad s.heap.size) (pt_W cA ad M) := pt_D hI (fun k h => Or.inl ⟨k, h, rfl⟩)
  have hS : va_S (pt_fr ad s.heap.size) s.heap s.heap [] := va_S.rf
  have hl := lv_entry ([.ref (ad 0), .int p1, .int p2, .int p3, .int p4, .int p5]) (n := 8) (Nat.le_of_ble_eq_true rfl)
  rw [lg_entry_eq]
  generalize (lg_sl ([.ref (ad 0), .int p1, .int p2, .int p3, .int p4, .int p5]) ++ List.replicate (8 - (lg_sl ([.ref (ad 0), .int p1, .int p2, .int p3, .int p4, .int p5])).length) Slot.unset).toArray = ls at hl ⊢
  have hl : lv_has ls 8 [(0, .ref (ad 0)), (1, .int p1), (2, .int p2), (3, .int p3), (4, .int p4), (5, .int p5)] := hl
  have J64 : ∀ (qs0 : Nat) (hqs0 : pt_kd qs0 = 0) (M : pt_M) (H : Heap) (locs : List Loc) (ls : Array Slot), wjX7_setDoing_64 p1 p2 p3 p4 p5 Q qs0 M → va_P D pt_cl (pt_W cA ad M) H → va_S (pt_fr ad s.heap.size) s.heap H locs → lv_has ls 8 [(3, .int p3), (4, .int p4), (5, .int p5)] → W p l e (headSpec (Cond.code yX7_setDoing cX7_setDoing 8 (some .int) :: lw_all) ({ frames := 3, cells := 0, slots := 0, locals := 64 } : Room)).room s m ([.ref (ad 0), .int p1, .int p2, .int p3, .int p4, .int p5] : List Value).toArray below meth c H locs 0 0 (MQ below (va_Qi Q (pt_B D cA ad) (pt_fr ad s.heap.size)) ([.ref (ad 0), .int p1, .int p2, .int p3, .int p4, .int p5] : List Value).toArray s 0 0 (pt_fr ad s.heap.size)) (F0 m 64 ls [.ref (ad qs0)]) := by
    intro qs0 hqs0 M H locs ls hw hP hS hl
    unfold wjX7_setDoing_64 at hw
    refine lv_astore (lv' := [(7, .ref (ad qs0)), (3, .int p3), (4, .int p4), (5, .int p5)]) hx hb dX7_setDoing_64 hl (by decide) rfl (fun ls hl => ?_)
    refine lv_aload hx hb dX7_setDoing_66 (lv_at hl 0 rfl) ?_
    refine lv_iload_n hx hb dX7_setDoing_68 rfl (lv_at hl 1 rfl) ?_
    refine lv_iload hx hb dX7_setDoing_69 (lv_at hl 2 rfl) ?_
    refine lv_iload hx hb dX7_setDoing_71 (lv_at hl 3 rfl) ?_
    refine pt_calli (pt_runV (n := 3) (As := [.int p3, .int p4, .int p5]) (rest := []) F hP (pt_c0 _ hqs0) (pt_l0 hqs0) rfl (mtX0_become l D cA ad hI _ qs0 hqs0 p3 p4 p5 M _ hw) kw_657 kw_654 kw_55 kw_655 kw_656 ⟨by decide, by decide, by decide +kernel⟩ ⟨rfl, rfl, Nat.le_of_ble_eq_true rfl, Nat.le_of_ble_eq_true rfl⟩ rfl hl.1 rfl (Nat.le_of_ble_eq_true rfl) dX7_setDoing_73 ⟨Nat.zero_le _, Nat.zero_le _⟩) hS (fun _ h => h) (fun r_73 M_73 H locs hw hP hS _ _ => ?_)
    exact W.iret (v := r_73) hx hb hr (fun t ht hW => ⟨⟨r_73, M_73, rfl, hw, by unfold pt_B; rw [ht]; exact hP⟩, hS.F ht⟩) hS.2.2 dX7_setDoing_76
  have J39 : ∀ (M : pt_M) (H : Heap) (locs : List Loc) (ls : Array Slot), wjX7_setDoing_39 p1 p2 p3 p4 p5 Q M → va_P D pt_cl (pt_W cA ad M) H → va_S (pt_fr ad s.heap.size) s.heap H locs → lv_has ls 8 [] → W p l e (headSpec (Cond.code yX7_setDoing cX7_setDoing 8 (some .int) :: lw_all) ({ frames := 3, cells := 0, slots := 0, locals := 64 } : Room)).room s m ([.ref (ad 0), .int p1, .int p2, .int p3, .int p4, .int p5] : List Value).toArray below meth c H locs 0 0 (MQ below (va_Qi Q (pt_B D cA ad) (pt_fr ad s.heap.size)) ([.ref (ad 0), .int p1, .int p2, .int p3, .int p4, .int p5] : List Value).toArray s 0 0 (pt_fr ad s.heap.size)) (F0 m 39 ls []) := by
    intro M H locs ls hw hP hS hl
    unfold wjX7_setDoing_39 at hw
    exact hw.elim
  unfold wpX7_setDoing at hw
  refine lv_aload_n hx hb dX7_setDoing_0 rfl (lv_at hl 0 rfl) ?_
  refine pt_callv (pt_runV (n := 0) (As := []) (rest := []) F hP (pt_c7 _ pt_k0) (pt_l7 pt_k0) rfl (mtX7_checkResting l D cA ad hI _ M _ hw) kw_639 kw_636 kw_52 kw_638 kw_4 ⟨by decide, by decide, by decide +kernel⟩ ⟨rfl, rfl, Nat.le_of_ble_eq_true rfl, Nat.le_of_ble_eq_true rfl⟩ rfl hl.1 rfl (Nat.le_of_ble_eq_true rfl) dX7_setDoing_1 ⟨Nat.zero_le _, Nat.zero_le _⟩) hS (fun _ h => h) (fun M_1 H locs hw hP hS _ _ => ?_)
  refine lv_aload_n hx hb dX7_setDoing_4 rfl (lv_at hl 0 rfl) ?_
  refine lv_iload_n hx hb dX7_setDoing_5 rfl (lv_at hl 1 rfl) ?_
  refine pt_callv (pt_runV (n := 1) (As := [.int p1]) (rest := []) F hP (pt_c7 _ pt_k0) (pt_l7 pt_k0) rfl (mtX7_checkState l D cA ad hI _ p1 M_1 _ hw) kw_481 kw_478 kw_52 kw_480 kw_1 ⟨by decide, by decide, by decide +kernel⟩ ⟨rfl, rfl, Nat.le_of_ble_eq_true rfl, Nat.le_of_ble_eq_true rfl⟩ rfl hl.1 rfl (Nat.le_of_ble_eq_true rfl) dX7_setDoing_6 ⟨Nat.zero_le _, Nat.zero_le _⟩) hS (fun _ h => h) (fun M_6 H locs hw hP hS _ _ => ?_)
  refine lv_aload_n hx hb dX7_setDoing_9 rfl (lv_at hl 0 rfl) ?_
  refine pt_get F hP (pt_c7 _ pt_k0) (pt_l7 pt_k0) inX7 rfl 0 (by decide) kw_370 rfl rfl dX7_setDoing_10 ?_
  refine pt_get F hP (pt_c1 _ pt_k1) (pt_l1 pt_k1) inX1 rfl 0 (by decide) kw_223 rfl rfl dX7_setDoing_13 ?_
  refine lv_iload_n hx hb dX7_setDoing_16 rfl (lv_at hl 1 rfl) ?_
  have hv17 := hw.1
  replace hw := hw.2
  refine pt_alds F hP hv17 dX7_setDoing_17 ?_
  refine lv_astore (lv' := [(6, .ref (ad (pt_s p1))), (0, .ref (ad 0)), (1, .int p1), (2, .int p2), (3, .int p3), (4, .int p4), (5, .int p5)]) hx hb dX7_setDoing_18 hl (by decide) rfl (fun ls hl => ?_)
  refine lv_aload hx hb dX7_setDoing_20 (lv_at hl 0 rfl) ?_
  refine pt_calli (pt_runV (n := 0) (As := []) (rest := []) F hP (pt_c5 _ (pt_ks hv17)) (pt_l5 (pt_ks hv17)) rfl (mtX5_isMark l D cA ad hI _ (pt_s p1) (pt_ks hv17) M_6 _ hw) kw_567 kw_564 kw_54 kw_565 kw_566 ⟨by decide, by decide, by decide +kernel⟩ ⟨rfl, rfl, Nat.le_of_ble_eq_true rfl, Nat.le_of_ble_eq_true rfl⟩ rfl hl.1 rfl (Nat.le_of_ble_eq_true rfl) dX7_setDoing_22 ⟨Nat.zero_le _, Nat.zero_le _⟩) hS (fun _ h => h) (fun r_22 M_22 H locs hw hP hS _ _ => ?_)
  refine lv_if_ne (tgt := 39) hx hb dX7_setDoing_25 (by decide) (fun hc25 => ?_) (fun hc25 => ?_)
  · replace hw := hw.1 hc25
    exact J39 M_22 _ _ _ hw hP hS (lv_sub hl [] rfl)
  · replace hw := hw.2 hc25
    refine lv_iload_n hx hb dX7_setDoing_28 rfl (lv_at hl 4 rfl) ?_
    refine lv_iload hx hb dX7_setDoing_29 (lv_at hl 5 rfl) ?_
    refine lv_iload hx hb dX7_setDoing_31 (lv_at hl 6 rfl) ?_
    refine pt_calli (pt_runS (n := 3) (As := [.int p3, .int p4, .int p5]) (rest := []) F hP (mtX7_isAction l D cA ad hI _ p3 p4 p5 M_22 _ hw) kw_650 kw_648 kw_52 kw_649 ⟨by decide, by decide, by decide +kernel⟩ ⟨rfl, rfl, Nat.le_of_ble_eq_true rfl, Nat.le_of_ble_eq_true rfl⟩ rfl hl.1 rfl (Nat.le_of_ble_eq_true rfl) dX7_setDoing_33 ⟨Nat.zero_le _, Nat.zero_le _⟩) hS (fun _ h => h) (fun r_33 M_33 H locs hw hP hS _ _ => ?_)
    refine lv_if_ne (tgt := 47) hx hb dX7_setDoing_36 (by decide) (fun hc36 => ?_) (fun hc36 => ?_)
    · replace hw := hw.1 hc36
      refine lv_iload_n hx hb dX7_setDoing_47 rfl (lv_at hl 3 rfl) ?_
      refine lv_if_eq (tgt := 59) hx hb dX7_setDoing_48 (by decide) (fun hc48 => ?_) (fun hc48 => ?_)
      · replace hw := hw.1 hc48
        refine lv_aload hx hb dX7_setDoing_59 (lv_at hl 0 rfl) ?_
        refine pt_get F hP (pt_c5 _ (pt_ks hv17)) (pt_l5 (pt_ks hv17)) inX5 rfl 0 (by decide) kw_130 rfl rfl dX7_setDoing_61 ?_
        exact J64 ((pt_s p1) + 1) (pt_5e (pt_ks hv17)) M_33 _ _ _ hw hP hS (lv_sub hl [4, 5, 6] rfl)
      · replace hw := hw.2 hc48
        refine lv_aload hx hb dX7_setDoing_51 (lv_at hl 0 rfl) ?_
        refine pt_get F hP (pt_c5 _ (pt_ks hv17)) (pt_l5 (pt_ks hv17)) inX5 rfl 1 (by decide) kw_133 rfl rfl dX7_setDoing_53 ?_
        refine lv_goto (tgt := 64) hx hb dX7_setDoing_56 (by decide) ?_
        exact J64 ((pt_s p1) + 2) (pt_5l (pt_ks hv17)) M_33 _ _ _ hw hP hS (lv_sub hl [4, 5, 6] rfl)
    · replace hw := hw.2 hc36
      exact J39 M_33 _ _ _ hw hP hS (lv_sub hl [] rfl)
-- ===== X7_addTransition
def wjX7_addTransition_98 (p1 : Int32) (p2 : Int32) (p3 : Int32) (p4 : Int32) (Q : Int32 → pt_M → Prop)   (M : pt_M) : Prop :=
  wpX1_putTransition p1 p2 p3 p4 M (fun (r_107 : Int32) (M_107 : pt_M) => Q r_107 M_107)
def wjX7_addTransition_90 (p1 : Int32) (p2 : Int32) (p3 : Int32) (p4 : Int32) (Q : Int32 → pt_M → Prop)   (M : pt_M) : Prop :=
  False
def wjX7_addTransition_67 (p1 : Int32) (p2 : Int32) (p3 : Int32) (p4 : Int32) (Q : Int32 → pt_M → Prop)   (M : pt_M) : Prop :=
  False
def wjX7_addTransition_44 (p1 : Int32) (p2 : Int32) (p3 : Int32) (p4 : Int32) (Q : Int32 → pt_M → Prop)   (M : pt_M) : Prop :=
  vp_in p1 20 ∧ (wpX5_isHolder (pt_s p1) M (fun (r_53 : Int32) (M_53 : pt_M) => (r_53 = 0 → wjX7_addTransition_67 p1 p2 p3 p4 Q M_53) ∧ (¬ r_53 = 0 → wpX7_isTrigger p2 p3 M_53 (fun (r_61 : Int32) (M_61 : pt_M) => (¬ r_61 = 0 → (p4 = 0 → wjX7_addTransition_90 p1 p2 p3 p4 Q M_61) ∧ (¬ p4 = 0 → (¬ p1 = 0 → wjX7_addTransition_98 p1 p2 p3 p4 Q M_61) ∧ (p1 = 0 → (p4 = (-1) → wjX7_addTransition_98 p1 p2 p3 p4 Q M_61) ∧ (¬ p4 = (-1) → wjX7_addTransition_90 p1 p2 p3 p4 Q M_61)))) ∧ (r_61 = 0 → wjX7_addTransition_67 p1 p2 p3 p4 Q M_61)))))
def wjX7_addTransition_19 (p1 : Int32) (p2 : Int32) (p3 : Int32) (p4 : Int32) (Q : Int32 → pt_M → Prop)   (M : pt_M) : Prop :=
  False
def wpX7_addTransition (p1 : Int32) (p2 : Int32) (p3 : Int32) (p4 : Int32) (M : pt_M) (Q : Int32 → pt_M → Prop) : Prop :=
  (¬ (M 0 4) = 0 → wjX7_addTransition_19 p1 p2 p3 p4 Q M) ∧ ((M 0 4) = 0 → ((M 1 4) < 30 → wpX7_checkState p1 M (fun (M_29 : pt_M) => (p4 = (-1) → wjX7_addTransition_44 p1 p2 p3 p4 Q M_29) ∧ (¬ p4 = (-1) → wpX7_checkState p4 M_29 (fun (M_41 : pt_M) => wjX7_addTransition_44 p1 p2 p3 p4 Q M_41)))) ∧ (¬ (M 1 4) < 30 → wjX7_addTransition_19 p1 p2 p3 p4 Q M))
set_option maxHeartbeats 4000000 in
set_option maxRecDepth 100000 in
theorem mtX7_addTransition (l : Launch) (D : va_G) (cA : Nat → ClassId) (ad : Nat → Nat) (hI : pt_I ad) (sz : Nat) (p1 : Int32) (p2 : Int32) (p3 : Int32) (p4 : Int32) (M : pt_M) (Q : Int32 → pt_M → Prop) (hw : wpX7_addTransition p1 p2 p3 p4 M Q) : Met l yX7_addTransition (Cond.code yX7_addTransition cX7_addTransition 5 (some .int) :: lw_all) ({ frames := 3, cells := 0, slots := 0, locals := 70 } : Room) (va_Pc [.ref (ad 0), .int p1, .int p2, .int p3, .int p4] (pt_P D cA ad sz M)) (va_Qi Q (pt_B D cA ad) (pt_fr ad sz)) 0 0 (pt_fr ad sz) := by
  refine Met.ofW (cc := cX7_addTransition) (maxL := 5) (ret := (some .int)) (by decide) rfl ?_
  intro p e s m args below meth c s₁ B hml hv
  obtain ⟨rfl, hsz, hP, hK⟩ := hv
  have hx := B.exec
  have hb := B.bytes
  have hr := B.returns
  have hts0 := atoms_spec (ws := (Cond.code yX7_addTransition cX7_addTransition 5 (some .int) :: lw_all)) B.pre
  have hown : s.vm.findClass RX7 = some m.cls := findClass_of_methodNamed B.named
  have hlocks := B.notSynchronized
  subst hsz
  have F : pt_F p m c cX7_addTransition 5 s _ RX7 D cA := ⟨⟨hx, hb, hml, hown, fun w h => hts0 w (List.mem_cons_of_mem _ h)⟩, hK⟩
  have hD : ∀ M, va_D (pt_fr ad s.heap.size) (pt_W cA ad M) := pt_D hI (fun k h => Or.inl ⟨k, h, rfl⟩)
  have hS : va_S (pt_fr ad s.heap.size) s.heap s.heap [] := va_S.rf
  have hl := lv_entry ([.ref (ad 0), .int p1, .int p2, .int p3, .int p4]) (n := 5) (Nat.le_of_ble_eq_true rfl)
  rw [lg_entry_eq]
  generalize (lg_sl ([.ref (ad 0), .int p1, .int p2, .int p3, .int p4]) ++ List.replicate (5 - (lg_sl ([.ref (ad 0), .int p1, .int p2, .int p3, .int p4])).length) Slot.unset).toArray = ls at hl ⊢
  have hl : lv_has ls 5 [(0, .ref (ad 0)), (1, .int p1), (2, .int p2), (3, .int p3), (4, .int p4)] := hl
  have J98 : ∀ (M : pt_M) (H : Heap) (locs : List Loc) (ls : Array Slot), wjX7_addTransition_98 p1 p2 p3 p4 Q M → va_P D pt_cl (pt_W cA ad M) H → va_S (pt_fr ad s.heap.size) s.heap H locs → lv_has ls 5 [(0, .ref (ad 0)), (1, .int p1), (2, .int p2), (3, .int p3), (4, .int p4)] → W p l e (headSpec (Cond.code yX7_addTransition cX7_addTransition 5 (some .int) :: lw_all) ({ frames := 3, cells := 0, slots := 0, locals := 70 } : Room)).room s m ([.ref (ad 0), .int p1, .int p2, .int p3, .int p4] : List Value).toArray below meth c H locs 0 0 (MQ below (va_Qi Q (pt_B D cA ad) (pt_fr ad s.heap.size)) ([.ref (ad 0), .int p1, .int p2, .int p3, .int p4] : List Value).toArray s 0 0 (pt_fr ad s.heap.size)) (F0 m 98 ls []) := by
    intro M H locs ls hw hP hS hl
    unfold wjX7_addTransition_98 at hw
    refine lv_aload_n hx hb dX7_addTransition_98 rfl (lv_at hl 0 rfl) ?_
    refine pt_get F hP (pt_c7 _ pt_k0) (pt_l7 pt_k0) inX7 rfl 0 (by decide) kw_370 rfl rfl dX7_addTransition_99 ?_
    refine lv_iload_n hx hb dX7_addTransition_102 rfl (lv_at hl 1 rfl) ?_
    refine lv_iload_n hx hb dX7_addTransition_103 rfl (lv_at hl 2 rfl) ?_
    refine lv_iload_n hx hb dX7_addTransition_104 rfl (lv_at hl 3 rfl) ?_
    refine lv_iload hx hb dX7_addTransition_105 (lv_at hl 4 rfl) ?_
    refine pt_calli (pt_runV (n := 4) (As := [.int p1, .int p2, .int p3, .int p4]) (rest := []) F hP (pt_c1 _ pt_k1) (pt_l1 pt_k1) rfl (mtX1_putTransition l D cA ad hI _ p1 p2 p3 p4 M _ hw) kw_671 kw_668 kw_53 kw_669 kw_670 ⟨by decide, by decide, by decide +kernel⟩ ⟨rfl, rfl, Nat.le_of_ble_eq_true rfl, Nat.le_of_ble_eq_true rfl⟩ rfl hl.1 rfl (Nat.le_of_ble_eq_true rfl) dX7_addTransition_107 ⟨Nat.zero_le _, Nat.zero_le _⟩) hS (fun _ h => h) (fun r_107 M_107 H locs hw hP hS _ _ => ?_)
    exact W.iret (v := r_107) hx hb hr (fun t ht hW => ⟨⟨r_107, M_107, rfl, hw, by unfold pt_B; rw [ht]; exact hP⟩, hS.F ht⟩) hS.2.2 dX7_addTransition_110
  have J90 : ∀ (M : pt_M) (H : Heap) (locs : List Loc) (ls : Array Slot), wjX7_addTransition_90 p1 p2 p3 p4 Q M → va_P D pt_cl (pt_W cA ad M) H → va_S (pt_fr ad s.heap.size) s.heap H locs → lv_has ls 5 [] → W p l e (headSpec (Cond.code yX7_addTransition cX7_addTransition 5 (some .int) :: lw_all) ({ frames := 3, cells := 0, slots := 0, locals := 70 } : Room)).room s m ([.ref (ad 0), .int p1, .int p2, .int p3, .int p4] : List Value).toArray below meth c H locs 0 0 (MQ below (va_Qi Q (pt_B D cA ad) (pt_fr ad s.heap.size)) ([.ref (ad 0), .int p1, .int p2, .int p3, .int p4] : List Value).toArray s 0 0 (pt_fr ad s.heap.size)) (F0 m 90 ls []) := by
    intro M H locs ls hw hP hS hl
    unfold wjX7_addTransition_90 at hw
    exact hw.elim
  have J67 : ∀ (M : pt_M) (H : Heap) (locs : List Loc) (ls : Array Slot), wjX7_addTransition_67 p1 p2 p3 p4 Q M → va_P D pt_cl (pt_W cA ad M) H → va_S (pt_fr ad s.heap.size) s.heap H locs → lv_has ls 5 [] → W p l e (headSpec (Cond.code yX7_addTransition cX7_addTransition 5 (some .int) :: lw_all) ({ frames := 3, cells := 0, slots := 0, locals := 70 } : Room)).room s m ([.ref (ad 0), .int p1, .int p2, .int p3, .int p4] : List Value).toArray below meth c H locs 0 0 (MQ below (va_Qi Q (pt_B D cA ad) (pt_fr ad s.heap.size)) ([.ref (ad 0), .int p1, .int p2, .int p3, .int p4] : List Value).toArray s 0 0 (pt_fr ad s.heap.size)) (F0 m 67 ls []) := by
    intro M H locs ls hw hP hS hl
    unfold wjX7_addTransition_67 at hw
    exact hw.elim
  have J44 : ∀ (M : pt_M) (H : Heap) (locs : List Loc) (ls : Array Slot), wjX7_addTransition_44 p1 p2 p3 p4 Q M → va_P D pt_cl (pt_W cA ad M) H → va_S (pt_fr ad s.heap.size) s.heap H locs → lv_has ls 5 [(0, .ref (ad 0)), (1, .int p1), (2, .int p2), (3, .int p3), (4, .int p4)] → W p l e (headSpec (Cond.code yX7_addTransition cX7_addTransition 5 (some .int) :: lw_all) ({ frames := 3, cells := 0, slots := 0, locals := 70 } : Room)).room s m ([.ref (ad 0), .int p1, .int p2, .int p3, .int p4] : List Value).toArray below meth c H locs 0 0 (MQ below (va_Qi Q (pt_B D cA ad) (pt_fr ad s.heap.size)) ([.ref (ad 0), .int p1, .int p2, .int p3, .int p4] : List Value).toArray s 0 0 (pt_fr ad s.heap.size)) (F0 m 44 ls []) := by
    intro M H locs ls hw hP hS hl
    unfold wjX7_addTransition_44 at hw
    refine lv_aload_n hx hb dX7_addTransition_44 rfl (lv_at hl 0 rfl) ?_
    refine pt_get F hP (pt_c7 _ pt_k0) (pt_l7 pt_k0) inX7 rfl 0 (by decide) kw_370 rfl rfl dX7_addTransition_45 ?_
    refine pt_get F hP (pt_c1 _ pt_k1) (pt_l1 pt_k1) inX1 rfl 0 (by decide) kw_223 rfl rfl dX7_addTransition_48 ?_
    refine lv_iload_n hx hb dX7_addTransition_51 rfl (lv_at hl 1 rfl) ?_
    have hv52 := hw.1
    replace hw := hw.2
    refine pt_alds F hP hv52 dX7_addTransition_52 ?_
    refine pt_calli (pt_runV (n := 0) (As := []) (rest := []) F hP (pt_c5 _ (pt_ks hv52)) (pt_l5 (pt_ks hv52)) rfl (mtX5_isHolder l D cA ad hI _ (pt_s p1) (pt_ks hv52) M _ hw) kw_613 kw_610 kw_54 kw_611 kw_612 ⟨by decide, by decide, by decide +kernel⟩ ⟨rfl, rfl, Nat.le_of_ble_eq_true rfl, Nat.le_of_ble_eq_true rfl⟩ rfl hl.1 rfl (Nat.le_of_ble_eq_true rfl) dX7_addTransition_53 ⟨Nat.zero_le _, Nat.zero_le _⟩) hS (fun _ h => h) (fun r_53 M_53 H locs hw hP hS _ _ => ?_)
    refine lv_if_eq (tgt := 67) hx hb dX7_addTransition_56 (by decide) (fun hc56 => ?_) (fun hc56 => ?_)
    · replace hw := hw.1 hc56
      exact J67 M_53 _ _ _ hw hP hS (lv_sub hl [] rfl)
    · replace hw := hw.2 hc56
      refine lv_iload_n hx hb dX7_addTransition_59 rfl (lv_at hl 2 rfl) ?_
      refine lv_iload_n hx hb dX7_addTransition_60 rfl (lv_at hl 3 rfl) ?_
      refine pt_calli (pt_runS (n := 2) (As := [.int p2, .int p3]) (rest := []) F hP (mtX7_isTrigger l D cA ad hI _ p2 p3 M_53 _ hw) kw_667 kw_665 kw_52 kw_666 ⟨by decide, by decide, by decide +kernel⟩ ⟨rfl, rfl, Nat.le_of_ble_eq_true rfl, Nat.le_of_ble_eq_true rfl⟩ rfl hl.1 rfl (Nat.le_of_ble_eq_true rfl) dX7_addTransition_61 ⟨Nat.zero_le _, Nat.zero_le _⟩) hS (fun _ h => h) (fun r_61 M_61 H locs hw hP hS _ _ => ?_)
      refine lv_if_ne (tgt := 75) hx hb dX7_addTransition_64 (by decide) (fun hc64 => ?_) (fun hc64 => ?_)
      · replace hw := hw.1 hc64
        refine lv_iload hx hb dX7_addTransition_75 (lv_at hl 4 rfl) ?_
        refine lv_if_eq (tgt := 90) hx hb dX7_addTransition_77 (by decide) (fun hc77 => ?_) (fun hc77 => ?_)
        · replace hw := hw.1 hc77
          exact J90 M_61 _ _ _ hw hP hS (lv_sub hl [] rfl)
        · replace hw := hw.2 hc77
          refine lv_iload_n hx hb dX7_addTransition_80 rfl (lv_at hl 1 rfl) ?_
          refine lv_if_ne (tgt := 98) hx hb dX7_addTransition_81 (by decide) (fun hc81 => ?_) (fun hc81 => ?_)
          · replace hw := hw.1 hc81
            exact J98 M_61 _ _ _ hw hP hS (lv_sub hl [0, 1, 2, 3, 4] rfl)
          · replace hw := hw.2 hc81
            refine lv_iload hx hb dX7_addTransition_84 (lv_at hl 4 rfl) ?_
            refine lv_iconst (v := (-1)) hx hb dX7_addTransition_86 (by decide) ?_
            refine lv_icmp_eq (tgt := 98) hx hb dX7_addTransition_87 (by decide) (fun hc87 => ?_) (fun hc87 => ?_)
            · replace hw := hw.1 hc87
              exact J98 M_61 _ _ _ hw hP hS (lv_sub hl [0, 1, 2, 3, 4] rfl)
            · replace hw := hw.2 hc87
              exact J90 M_61 _ _ _ hw hP hS (lv_sub hl [] rfl)
      · replace hw := hw.2 hc64
        exact J67 M_61 _ _ _ hw hP hS (lv_sub hl [] rfl)
  have J19 : ∀ (M : pt_M) (H : Heap) (locs : List Loc) (ls : Array Slot), wjX7_addTransition_19 p1 p2 p3 p4 Q M → va_P D pt_cl (pt_W cA ad M) H → va_S (pt_fr ad s.heap.size) s.heap H locs → lv_has ls 5 [] → W p l e (headSpec (Cond.code yX7_addTransition cX7_addTransition 5 (some .int) :: lw_all) ({ frames := 3, cells := 0, slots := 0, locals := 70 } : Room)).room s m ([.ref (ad 0), .int p1, .int p2, .int p3, .int p4] : List Value).toArray below meth c H locs 0 0 (MQ below (va_Qi Q (pt_B D cA ad) (pt_fr ad s.heap.size)) ([.ref (ad 0), .int p1, .int p2, .int p3, .int p4] : List Value).toArray s 0 0 (pt_fr ad s.heap.size)) (F0 m 19 ls []) := by
    intro M H locs ls hw hP hS hl
    unfold wjX7_addTransition_19 at hw
    exact hw.elim
  unfold wpX7_addTransition at hw
  refine lv_aload_n hx hb dX7_addTransition_0 rfl (lv_at hl 0 rfl) ?_
  refine pt_get F hP (pt_c7 _ pt_k0) (pt_l7 pt_k0) inX7 rfl 4 (by decide) kw_374 rfl rfl dX7_addTransition_1 ?_
  refine lv_if_ne (tgt := 19) hx hb dX7_addTransition_4 (by decide) (fun hc4 => ?_) (fun hc4 => ?_)
  · replace hw := hw.1 hc4
    exact J19 M _ _ _ hw hP hS (lv_sub hl [] rfl)
  · replace hw := hw.2 hc4
    refine lv_aload_n hx hb dX7_addTransition_7 rfl (lv_at hl 0 rfl) ?_
    refine pt_get F hP (pt_c7 _ pt_k0) (pt_l7 pt_k0) inX7 rfl 0 (by decide) kw_370 rfl rfl dX7_addTransition_8 ?_
    refine pt_get F hP (pt_c1 _ pt_k1) (pt_l1 pt_k1) inX1 rfl 4 (by decide) kw_234 rfl rfl dX7_addTransition_11 ?_
    refine lv_bipush (v := 30) hx hb dX7_addTransition_14 (by decide) ?_
    refine lv_icmp_lt (tgt := 27) hx hb dX7_addTransition_16 (by decide) (fun hc16 => ?_) (fun hc16 => ?_)
    · replace hw := hw.1 hc16
      refine lv_aload_n hx hb dX7_addTransition_27 rfl (lv_at hl 0 rfl) ?_
      refine lv_iload_n hx hb dX7_addTransition_28 rfl (lv_at hl 1 rfl) ?_
      refine pt_callv (pt_runV (n := 1) (As := [.int p1]) (rest := []) F hP (pt_c7 _ pt_k0) (pt_l7 pt_k0) rfl (mtX7_checkState l D cA ad hI _ p1 M _ hw) kw_481 kw_478 kw_52 kw_480 kw_1 ⟨by decide, by decide, by decide +kernel⟩ ⟨rfl, rfl, Nat.le_of_ble_eq_true rfl, Nat.le_of_ble_eq_true rfl⟩ rfl hl.1 rfl (Nat.le_of_ble_eq_true rfl) dX7_addTransition_29 ⟨Nat.zero_le _, Nat.zero_le _⟩) hS (fun _ h => h) (fun M_29 H locs hw hP hS _ _ => ?_)
      refine lv_iload hx hb dX7_addTransition_32 (lv_at hl 4 rfl) ?_
      refine lv_iconst (v := (-1)) hx hb dX7_addTransition_34 (by decide) ?_
      refine lv_icmp_eq (tgt := 44) hx hb dX7_addTransition_35 (by decide) (fun hc35 => ?_) (fun hc35 => ?_)
      · replace hw := hw.1 hc35
        exact J44 M_29 _ _ _ hw hP hS (lv_sub hl [0, 1, 2, 3, 4] rfl)
      · replace hw := hw.2 hc35
        refine lv_aload_n hx hb dX7_addTransition_38 rfl (lv_at hl 0 rfl) ?_
        refine lv_iload hx hb dX7_addTransition_39 (lv_at hl 4 rfl) ?_
        refine pt_callv (pt_runV (n := 1) (As := [.int p4]) (rest := []) F hP (pt_c7 _ pt_k0) (pt_l7 pt_k0) rfl (mtX7_checkState l D cA ad hI _ p4 M_29 _ hw) kw_481 kw_478 kw_52 kw_480 kw_1 ⟨by decide, by decide, by decide +kernel⟩ ⟨rfl, rfl, Nat.le_of_ble_eq_true rfl, Nat.le_of_ble_eq_true rfl⟩ rfl hl.1 rfl (Nat.le_of_ble_eq_true rfl) dX7_addTransition_41 ⟨Nat.zero_le _, Nat.zero_le _⟩) hS (fun _ h => h) (fun M_41 H locs hw hP hS _ _ => ?_)
        exact J44 M_41 _ _ _ hw hP hS (lv_sub hl [0, 1, 2, 3, 4] rfl)
    · replace hw := hw.2 hc16
      exact J19 M _ _ _ hw hP hS (lv_sub hl [] rfl)
-- ===== X7_setGuard
def wpX7_setGuard (p1 : Int32) (p2 : Int32) (p3 : Int32) (p4 : Int32) (M : pt_M) (Q : Int32 → pt_M → Prop) : Prop :=
  wpX7_checkResting M (fun (M_1 : pt_M) => wpX7_checkTransition p1 M_1 (fun (M_6 : pt_M) => wpX7_isGuard p2 p3 p4 M_6 (fun (r_13 : Int32) (M_13 : pt_M) => (¬ r_13 = 0 → vp_in p1 30 ∧ (∀ x6_43 : Int32, x6_43 = (M_13 (pt_t p1) 6) → ∀ M_48 : pt_M, M_48 = pt_st M_13 (pt_t p1) 6 p2 → ∀ M_54 : pt_M, M_54 = pt_st M_48 (pt_t p1) 7 p3 → ∀ M_61 : pt_M, M_61 = pt_st M_54 (pt_t p1) 8 p4 → Q x6_43 M_61)) ∧ (r_13 = 0 → False))))
set_option maxHeartbeats 4000000 in
set_option maxRecDepth 100000 in
theorem mtX7_setGuard (l : Launch) (D : va_G) (cA : Nat → ClassId) (ad : Nat → Nat) (hI : pt_I ad) (sz : Nat) (p1 : Int32) (p2 : Int32) (p3 : Int32) (p4 : Int32) (M : pt_M) (Q : Int32 → pt_M → Prop) (hw : wpX7_setGuard p1 p2 p3 p4 M Q) : Met l yX7_setGuard (Cond.code yX7_setGuard cX7_setGuard 7 (some .int) :: lw_all) ({ frames := 3, cells := 0, slots := 0, locals := 64 } : Room) (va_Pc [.ref (ad 0), .int p1, .int p2, .int p3, .int p4] (pt_P D cA ad sz M)) (va_Qi Q (pt_B D cA ad) (pt_fr ad sz)) 0 0 (pt_fr ad sz) := by
  refine Met.ofW (cc := cX7_setGuard) (maxL := 7) (ret := (some .int)) (by decide) rfl ?_
  intro p e s m args below meth c s₁ B hml hv
  obtain ⟨rfl, hsz, hP, hK⟩ := hv
  have hx := B.exec
  have hb := B.bytes
  have hr := B.returns
  have hts0 := atoms_spec (ws := (Cond.code yX7_setGuard cX7_setGuard 7 (some .int) :: lw_all)) B.pre
  have hown : s.vm.findClass RX7 = some m.cls := findClass_of_methodNamed B.named
  have hlocks := B.notSynchronized
  subst hsz
  have F : pt_F p m c cX7_setGuard 7 s _ RX7 D cA := ⟨⟨hx, hb, hml, hown, fun w h => hts0 w (List.mem_cons_of_mem _ h)⟩, hK⟩
  have hD : ∀ M, va_D (pt_fr ad s.heap.size) (pt_W cA ad M) := pt_D hI (fun k h => Or.inl ⟨k, h, rfl⟩)
  have hS : va_S (pt_fr ad s.heap.size) s.heap s.heap [] := va_S.rf
  have hl := lv_entry ([.ref (ad 0), .int p1, .int p2, .int p3, .int p4]) (n := 7) (Nat.le_of_ble_eq_true rfl)
  rw [lg_entry_eq]
  generalize (lg_sl ([.ref (ad 0), .int p1, .int p2, .int p3, .int p4]) ++ List.replicate (7 - (lg_sl ([.ref (ad 0), .int p1, .int p2, .int p3, .int p4])).length) Slot.unset).toArray = ls at hl ⊢
  have hl : lv_has ls 7 [(0, .ref (ad 0)), (1, .int p1), (2, .int p2), (3, .int p3), (4, .int p4)] := hl
  unfold wpX7_setGuard at hw
  refine lv_aload_n hx hb dX7_setGuard_0 rfl (lv_at hl 0 rfl) ?_
  refine pt_callv (pt_runV (n := 0) (As := []) (rest := []) F hP (pt_c7 _ pt_k0) (pt_l7 pt_k0) rfl (mtX7_checkResting l D cA ad hI _ M _ hw) kw_639 kw_636 kw_52 kw_638 kw_4 ⟨by decide, by decide, by decide +kernel⟩ ⟨rfl, rfl, Nat.le_of_ble_eq_true rfl, Nat.le_of_ble_eq_true rfl⟩ rfl hl.1 rfl (Nat.le_of_ble_eq_true rfl) dX7_setGuard_1 ⟨Nat.zero_le _, Nat.zero_le _⟩) hS (fun _ h => h) (fun M_1 H locs hw hP hS _ _ => ?_)
  refine lv_aload_n hx hb dX7_setGuard_4 rfl (lv_at hl 0 rfl) ?_
  refine lv_iload_n hx hb dX7_setGuard_5 rfl (lv_at hl 1 rfl) ?_
  refine pt_callv (pt_runV (n := 1) (As := [.int p1]) (rest := []) F hP (pt_c7 _ pt_k0) (pt_l7 pt_k0) rfl (mtX7_checkTransition l D cA ad hI _ p1 M_1 _ hw) kw_583 kw_580 kw_52 kw_582 kw_3 ⟨by decide, by decide, by decide +kernel⟩ ⟨rfl, rfl, Nat.le_of_ble_eq_true rfl, Nat.le_of_ble_eq_true rfl⟩ rfl hl.1 rfl (Nat.le_of_ble_eq_true rfl) dX7_setGuard_6 ⟨Nat.zero_le _, Nat.zero_le _⟩) hS (fun _ h => h) (fun M_6 H locs hw hP hS _ _ => ?_)
  refine lv_iload_n hx hb dX7_setGuard_9 rfl (lv_at hl 2 rfl) ?_
  refine lv_iload_n hx hb dX7_setGuard_10 rfl (lv_at hl 3 rfl) ?_
  refine lv_iload hx hb dX7_setGuard_11 (lv_at hl 4 rfl) ?_
  refine pt_calli (pt_runS (n := 3) (As := [.int p2, .int p3, .int p4]) (rest := []) F hP (mtX7_isGuard l D cA ad hI _ p2 p3 p4 M_6 _ hw) kw_688 kw_686 kw_52 kw_687 ⟨by decide, by decide, by decide +kernel⟩ ⟨rfl, rfl, Nat.le_of_ble_eq_true rfl, Nat.le_of_ble_eq_true rfl⟩ rfl hl.1 rfl (Nat.le_of_ble_eq_true rfl) dX7_setGuard_13 ⟨Nat.zero_le _, Nat.zero_le _⟩) hS (fun _ h => h) (fun r_13 M_13 H locs hw hP hS _ _ => ?_)
  refine lv_if_ne (tgt := 27) hx hb dX7_setGuard_16 (by decide) (fun hc16 => ?_) (fun hc16 => ?_)
  · replace hw := hw.1 hc16
    refine lv_aload_n hx hb dX7_setGuard_27 rfl (lv_at hl 0 rfl) ?_
    refine pt_get F hP (pt_c7 _ pt_k0) (pt_l7 pt_k0) inX7 rfl 0 (by decide) kw_370 rfl rfl dX7_setGuard_28 ?_
    refine pt_get F hP (pt_c1 _ pt_k1) (pt_l1 pt_k1) inX1 rfl 1 (by decide) kw_226 rfl rfl dX7_setGuard_31 ?_
    refine lv_iload_n hx hb dX7_setGuard_34 rfl (lv_at hl 1 rfl) ?_
    have hv35 := hw.1
    replace hw := hw.2
    refine pt_aldt F hP hv35 dX7_setGuard_35 ?_
    refine lv_astore (lv' := [(5, .ref (ad (pt_t p1))), (0, .ref (ad 0)), (1, .int p1), (2, .int p2), (3, .int p3), (4, .int p4)]) hx hb dX7_setGuard_36 hl (by decide) rfl (fun ls hl => ?_)
    refine lv_aload hx hb dX7_setGuard_38 (lv_at hl 0 rfl) ?_
    refine pt_get F hP (pt_c6 _ (pt_kt hv35)) (pt_l6 (pt_kt hv35)) inX6 rfl 6 (by decide) kw_198 rfl rfl dX7_setGuard_40 ?_
    refine lv_topi (fun x6_43 ex6_43 => ?_)
    replace hw := hw x6_43 ex6_43
    refine lv_istore (lv' := [(6, .int x6_43), (5, .ref (ad (pt_t p1))), (0, .ref (ad 0)), (1, .int p1), (2, .int p2), (3, .int p3), (4, .int p4)]) hx hb dX7_setGuard_43 hl (by decide) rfl (fun ls hl => ?_)
    refine lv_aload hx hb dX7_setGuard_45 (lv_at hl 1 rfl) ?_
    refine lv_iload_n hx hb dX7_setGuard_47 rfl (lv_at hl 4 rfl) ?_
    refine pt_put F hP hD hS (pt_c6 _ (pt_kt hv35)) (pt_l6 (pt_kt hv35)) inX6 tyX6 tyX6_ok nmX6 rfl 6 (by decide) kw_198 rfl rfl rfl rfl (Nat.le_of_ble_eq_true rfl) (pt_c6 _ (pt_kt hv35)) dX7_setGuard_48 (fun M_48 H locs eM_48 hP hS => ?_)
    replace hw := hw M_48 eM_48
    refine lv_aload hx hb dX7_setGuard_51 (lv_at hl 1 rfl) ?_
    refine lv_iload_n hx hb dX7_setGuard_53 rfl (lv_at hl 5 rfl) ?_
    refine pt_put F hP hD hS (pt_c6 _ (pt_kt hv35)) (pt_l6 (pt_kt hv35)) inX6 tyX6 tyX6_ok nmX6 rfl 7 (by decide) kw_200 rfl rfl rfl rfl (Nat.le_of_ble_eq_true rfl) (pt_c6 _ (pt_kt hv35)) dX7_setGuard_54 (fun M_54 H locs eM_54 hP hS => ?_)
    replace hw := hw M_54 eM_54
    refine lv_aload hx hb dX7_setGuard_57 (lv_at hl 1 rfl) ?_
    refine lv_iload hx hb dX7_setGuard_59 (lv_at hl 6 rfl) ?_
    refine pt_put F hP hD hS (pt_c6 _ (pt_kt hv35)) (pt_l6 (pt_kt hv35)) inX6 tyX6 tyX6_ok nmX6 rfl 8 (by decide) kw_202 rfl rfl rfl rfl (Nat.le_of_ble_eq_true rfl) (pt_c6 _ (pt_kt hv35)) dX7_setGuard_61 (fun M_61 H locs eM_61 hP hS => ?_)
    replace hw := hw M_61 eM_61
    refine lv_iload hx hb dX7_setGuard_64 (lv_at hl 0 rfl) ?_
    exact W.iret (v := x6_43) hx hb hr (fun t ht hW => ⟨⟨x6_43, M_61, rfl, hw, by unfold pt_B; rw [ht]; exact hP⟩, hS.F ht⟩) hS.2.2 dX7_setGuard_66
  · replace hw := hw.2 hc16
    exact hw.elim
-- ===== X7_setAction
def wpX7_setAction (p1 : Int32) (p2 : Int32) (p3 : Int32) (p4 : Int32) (M : pt_M) (Q : Int32 → pt_M → Prop) : Prop :=
  wpX7_checkResting M (fun (M_1 : pt_M) => wpX7_checkTransition p1 M_1 (fun (M_6 : pt_M) => wpX7_isAction p2 p3 p4 M_6 (fun (r_13 : Int32) (M_13 : pt_M) => (¬ r_13 = 0 → vp_in p1 30 ∧ (wpX0_become ((pt_t p1) + 1) p2 p3 p4 M_13 (fun (r_43 : Int32) (M_43 : pt_M) => Q r_43 M_43))) ∧ (r_13 = 0 → False))))
set_option maxHeartbeats 4000000 in
set_option maxRecDepth 100000 in
theorem mtX7_setAction (l : Launch) (D : va_G) (cA : Nat → ClassId) (ad : Nat → Nat) (hI : pt_I ad) (sz : Nat) (p1 : Int32) (p2 : Int32) (p3 : Int32) (p4 : Int32) (M : pt_M) (Q : Int32 → pt_M → Prop) (hw : wpX7_setAction p1 p2 p3 p4 M Q) : Met l yX7_setAction (Cond.code yX7_setAction cX7_setAction 5 (some .int) :: lw_all) ({ frames := 3, cells := 0, slots := 0, locals := 64 } : Room) (va_Pc [.ref (ad 0), .int p1, .int p2, .int p3, .int p4] (pt_P D cA ad sz M)) (va_Qi Q (pt_B D cA ad) (pt_fr ad sz)) 0 0 (pt_fr ad sz) := by
  refine Met.ofW (cc := cX7_setAction) (maxL := 5) (ret := (some .int)) (by decide) rfl ?_
  intro p e s m args below meth c s₁ B hml hv
  obtain ⟨rfl, hsz, hP, hK⟩ := hv
  have hx := B.exec
  have hb := B.bytes
  have hr := B.returns
  have hts0 := atoms_spec (ws := (Cond.code yX7_setAction cX7_setAction 5 (some .int) :: lw_all)) B.pre
  have hown : s.vm.findClass RX7 = some m.cls := findClass_of_methodNamed B.named
  have hlocks := B.notSynchronized
  subst hsz
  have F : pt_F p m c cX7_setAction 5 s _ RX7 D cA := ⟨⟨hx, hb, hml, hown, fun w h => hts0 w (List.mem_cons_of_mem _ h)⟩, hK⟩
  have hD : ∀ M, va_D (pt_fr ad s.heap.size) (pt_W cA ad M) := pt_D hI (fun k h => Or.inl ⟨k, h, rfl⟩)
  have hS : va_S (pt_fr ad s.heap.size) s.heap s.heap [] := va_S.rf
  have hl := lv_entry ([.ref (ad 0), .int p1, .int p2, .int p3, .int p4]) (n := 5) (Nat.le_of_ble_eq_true rfl)
  rw [lg_entry_eq]
  generalize (lg_sl ([.ref (ad 0), .int p1, .int p2, .int p3, .int p4]) ++ List.replicate (5 - (lg_sl ([.ref (ad 0), .int p1, .int p2, .int p3, .int p4])).length) Slot.unset).toArray = ls at hl ⊢
  have hl : lv_has ls 5 [(0, .ref (ad 0)), (1, .int p1), (2, .int p2), (3, .int p3), (4, .int p4)] := hl
  unfold wpX7_setAction at hw
  refine lv_aload_n hx hb dX7_setAction_0 rfl (lv_at hl 0 rfl) ?_
  refine pt_callv (pt_runV (n := 0) (As := []) (rest := []) F hP (pt_c7 _ pt_k0) (pt_l7 pt_k0) rfl (mtX7_checkResting l D cA ad hI _ M _ hw) kw_639 kw_636 kw_52 kw_638 kw_4 ⟨by decide, by decide, by decide +kernel⟩ ⟨rfl, rfl, Nat.le_of_ble_eq_true rfl, Nat.le_of_ble_eq_true rfl⟩ rfl hl.1 rfl (Nat.le_of_ble_eq_true rfl) dX7_setAction_1 ⟨Nat.zero_le _, Nat.zero_le _⟩) hS (fun _ h => h) (fun M_1 H locs hw hP hS _ _ => ?_)
  refine lv_aload_n hx hb dX7_setAction_4 rfl (lv_at hl 0 rfl) ?_
  refine lv_iload_n hx hb dX7_setAction_5 rfl (lv_at hl 1 rfl) ?_
  refine pt_callv (pt_runV (n := 1) (As := [.int p1]) (rest := []) F hP (pt_c7 _ pt_k0) (pt_l7 pt_k0) rfl (mtX7_checkTransition l D cA ad hI _ p1 M_1 _ hw) kw_583 kw_580 kw_52 kw_582 kw_3 ⟨by decide, by decide, by decide +kernel⟩ ⟨rfl, rfl, Nat.le_of_ble_eq_true rfl, Nat.le_of_ble_eq_true rfl⟩ rfl hl.1 rfl (Nat.le_of_ble_eq_true rfl) dX7_setAction_6 ⟨Nat.zero_le _, Nat.zero_le _⟩) hS (fun _ h => h) (fun M_6 H locs hw hP hS _ _ => ?_)
  refine lv_iload_n hx hb dX7_setAction_9 rfl (lv_at hl 2 rfl) ?_
  refine lv_iload_n hx hb dX7_setAction_10 rfl (lv_at hl 3 rfl) ?_
  refine lv_iload hx hb dX7_setAction_11 (lv_at hl 4 rfl) ?_
  refine pt_calli (pt_runS (n := 3) (As := [.int p2, .int p3, .int p4]) (rest := []) F hP (mtX7_isAction l D cA ad hI _ p2 p3 p4 M_6 _ hw) kw_650 kw_648 kw_52 kw_649 ⟨by decide, by decide, by decide +kernel⟩ ⟨rfl, rfl, Nat.le_of_ble_eq_true rfl, Nat.le_of_ble_eq_true rfl⟩ rfl hl.1 rfl (Nat.le_of_ble_eq_true rfl) dX7_setAction_13 ⟨Nat.zero_le _, Nat.zero_le _⟩) hS (fun _ h => h) (fun r_13 M_13 H locs hw hP hS _ _ => ?_)
  refine lv_if_ne (tgt := 27) hx hb dX7_setAction_16 (by decide) (fun hc16 => ?_) (fun hc16 => ?_)
  · replace hw := hw.1 hc16
    refine lv_aload_n hx hb dX7_setAction_27 rfl (lv_at hl 0 rfl) ?_
    refine pt_get F hP (pt_c7 _ pt_k0) (pt_l7 pt_k0) inX7 rfl 0 (by decide) kw_370 rfl rfl dX7_setAction_28 ?_
    refine pt_get F hP (pt_c1 _ pt_k1) (pt_l1 pt_k1) inX1 rfl 1 (by decide) kw_226 rfl rfl dX7_setAction_31 ?_
    refine lv_iload_n hx hb dX7_setAction_34 rfl (lv_at hl 1 rfl) ?_
    have hv35 := hw.1
    replace hw := hw.2
    refine pt_aldt F hP hv35 dX7_setAction_35 ?_
    refine pt_get F hP (pt_c6 _ (pt_kt hv35)) (pt_l6 (pt_kt hv35)) inX6 rfl 0 (by decide) kw_183 rfl rfl dX7_setAction_36 ?_
    refine lv_iload_n hx hb dX7_setAction_39 rfl (lv_at hl 2 rfl) ?_
    refine lv_iload_n hx hb dX7_setAction_40 rfl (lv_at hl 3 rfl) ?_
    refine lv_iload hx hb dX7_setAction_41 (lv_at hl 4 rfl) ?_
    refine pt_calli (pt_runV (n := 3) (As := [.int p2, .int p3, .int p4]) (rest := []) F hP (pt_c0 _ (pt_6a (pt_kt hv35))) (pt_l0 (pt_6a (pt_kt hv35))) rfl (mtX0_become l D cA ad hI _ ((pt_t p1) + 1) (pt_6a (pt_kt hv35)) p2 p3 p4 M_13 _ hw) kw_657 kw_654 kw_55 kw_655 kw_656 ⟨by decide, by decide, by decide +kernel⟩ ⟨rfl, rfl, Nat.le_of_ble_eq_true rfl, Nat.le_of_ble_eq_true rfl⟩ rfl hl.1 rfl (Nat.le_of_ble_eq_true rfl) dX7_setAction_43 ⟨Nat.zero_le _, Nat.zero_le _⟩) hS (fun _ h => h) (fun r_43 M_43 H locs hw hP hS _ _ => ?_)
    exact W.iret (v := r_43) hx hb hr (fun t ht hW => ⟨⟨r_43, M_43, rfl, hw, by unfold pt_B; rw [ht]; exact hP⟩, hS.F ht⟩) hS.2.2 dX7_setAction_46
  · replace hw := hw.2 hc16
    exact hw.elim
