-- ===== X12_setGuard
def wjX12_setGuard_75 (p1 : Int32) (p2 : Int32) (p3 : Int32) (p4 : Int32) (Q : Int32 → pt_M → Prop)   (M : pt_M) : Prop :=
  Q 0 M
def wjX12_setGuard_68 (p1 : Int32) (p2 : Int32) (p3 : Int32) (p4 : Int32) (Q : Int32 → pt_M → Prop)  (xs1 : Int32) (M : pt_M) : Prop :=
  wpX12_refuse xs1 3 M (fun (r_69 : Int32) (M_69 : pt_M) => (r_69 = 0 → False) ∧ (¬ r_69 = 0 → wjX12_setGuard_75 p1 p2 p3 p4 Q M_69))
def wjX12_setGuard_67 (p1 : Int32) (p2 : Int32) (p3 : Int32) (p4 : Int32) (Q : Int32 → pt_M → Prop)   (M : pt_M) : Prop :=
  wjX12_setGuard_68 p1 p2 p3 p4 Q 0 M
def wjX12_setGuard_63 (p1 : Int32) (p2 : Int32) (p3 : Int32) (p4 : Int32) (Q : Int32 → pt_M → Prop)   (M : pt_M) : Prop :=
  wjX12_setGuard_68 p1 p2 p3 p4 Q 1 M
def wpX12_setGuard (p1 : Int32) (p2 : Int32) (p3 : Int32) (p4 : Int32) (M : pt_M) (Q : Int32 → pt_M → Prop) : Prop :=
  wpX12_start (M 6 0) 1 M (fun (r_9 : Int32) (M_9 : pt_M) => (¬ r_9 = 0 → wjX12_setGuard_75 p1 p2 p3 p4 Q M_9) ∧ (r_9 = 0 → wpX12_isNoTransition p1 M_9 (fun (r_18 : Int32) (M_18 : pt_M) => wpX12_refuse r_18 2 M_18 (fun (r_22 : Int32) (M_22 : pt_M) => (¬ r_22 = 0 → wjX12_setGuard_75 p1 p2 p3 p4 Q M_22) ∧ (r_22 = 0 → wpX12_isIn p2 0 3 M_22 (fun (r_32 : Int32) (M_32 : pt_M) => (r_32 = 0 → wjX12_setGuard_63 p1 p2 p3 p4 Q M_32) ∧ (¬ r_32 = 0 → (p2 ≤ 0 → wjX12_setGuard_67 p1 p2 p3 p4 Q M_32) ∧ (¬ p2 ≤ 0 → wpX12_isIn p3 0 3 M_32 (fun (r_45 : Int32) (M_45 : pt_M) => (r_45 = 0 → wjX12_setGuard_63 p1 p2 p3 p4 Q M_45) ∧ (¬ r_45 = 0 → wpX12_isIn p4 (-99) 99 M_45 (fun (r_57 : Int32) (M_57 : pt_M) => (¬ r_57 = 0 → wjX12_setGuard_67 p1 p2 p3 p4 Q M_57) ∧ (r_57 = 0 → wjX12_setGuard_63 p1 p2 p3 p4 Q M_57))))))))))))
set_option maxHeartbeats 4000000 in
set_option maxRecDepth 100000 in
theorem mtX12_setGuard (l : Launch) (D : va_G) (cA : Nat → ClassId) (ad : Nat → Nat) (hI : rt_I ad) (sz : Nat) (p1 : Int32) (p2 : Int32) (p3 : Int32) (p4 : Int32) (M : pt_M) (Q : Int32 → pt_M → Prop) (hw : wpX12_setGuard p1 p2 p3 p4 M Q) : Met l yX12_setGuard (Cond.code yX12_setGuard cX12_setGuard 7 (some .int) :: lw_all) ({ frames := 2, cells := 0, slots := 0, locals := 44 } : Room) (va_Pc [.ref (ad 0), .int p1, .int p2, .int p3, .int p4] (rt_P D cA ad sz M)) (va_Qi Q (rt_B D cA ad) (rt_fr ad sz)) 0 0 (rt_fr ad sz) := by
  refine Met.ofW (cc := cX12_setGuard) (maxL := 7) (ret := (some .int)) (by decide) rfl ?_
  intro p e s m args below meth c s₁ B hml hv
  obtain ⟨rfl, hsz, hP, hK, hN⟩ := hv
  have hx := B.exec
  have hb := B.bytes
  have hr := B.returns
  have hts0 := atoms_spec (ws := (Cond.code yX12_setGuard cX12_setGuard 7 (some .int) :: lw_all)) B.pre
  have hown : s.vm.findClass RX12 = some m.cls := findClass_of_methodNamed B.named
  have hlocks := B.notSynchronized
  subst hsz
  have F : pt_F p m c cX12_setGuard 7 s _ RX12 D cA := ⟨⟨hx, hb, hml, hown, fun w h => hts0 w (List.mem_cons_of_mem _ h)⟩, hK⟩
  have hD : ∀ M, va_D (rt_fr ad s.heap.size) (rt_W cA ad M) := rt_D hI (fun k h => Or.inl ⟨k, h, rfl⟩)
  have hS : va_S (rt_fr ad s.heap.size) s.heap s.heap [] := va_S.rf
  have hl := lv_entry ([.ref (ad 0), .int p1, .int p2, .int p3, .int p4]) (n := 7) (Nat.le_of_ble_eq_true rfl)
  rw [lg_entry_eq]
  generalize (lg_sl ([.ref (ad 0), .int p1, .int p2, .int p3, .int p4]) ++ List.replicate (7 - (lg_sl ([.ref (ad 0), .int p1, .int p2, .int p3, .int p4])).length) Slot.unset).toArray = ls at hl ⊢
  have hl : lv_has ls 7 [(0, .ref (ad 0)), (1, .int p1), (2, .int p2), (3, .int p3), (4, .int p4)] := hl
  have J75 : ∀ (M : pt_M) (H : Heap) (locs : List Loc) (ls : Array Slot), wjX12_setGuard_75 p1 p2 p3 p4 Q M → va_P D pt_cl (rt_W cA ad M) H → va_S (rt_fr ad s.heap.size) s.heap H locs → lv_has ls 7 [] → W p l e (headSpec (Cond.code yX12_setGuard cX12_setGuard 7 (some .int) :: lw_all) ({ frames := 2, cells := 0, slots := 0, locals := 44 } : Room)).room s m ([.ref (ad 0), .int p1, .int p2, .int p3, .int p4] : List Value).toArray below meth c H locs 0 0 (MQ below (va_Qi Q (rt_B D cA ad) (rt_fr ad s.heap.size)) ([.ref (ad 0), .int p1, .int p2, .int p3, .int p4] : List Value).toArray s 0 0 (rt_fr ad s.heap.size)) (F0 m 75 ls []) := by
    intro M H locs ls hw hP hS hl
    unfold wjX12_setGuard_75 at hw
    refine lv_iconst (v := 0) hx hb dX12_setGuard_75 (by decide) ?_
    exact W.iret (v := 0) hx hb hr (fun t ht hW => ⟨⟨0, M, rfl, hw, by unfold rt_B; rw [ht]; exact hP⟩, hS.F ht⟩) hS.2.2 dX12_setGuard_76
  have J68 : ∀ (xs1 : Int32) (M : pt_M) (H : Heap) (locs : List Loc) (ls : Array Slot), wjX12_setGuard_68 p1 p2 p3 p4 Q xs1 M → va_P D pt_cl (rt_W cA ad M) H → va_S (rt_fr ad s.heap.size) s.heap H locs → lv_has ls 7 [(0, .ref (ad 0)), (1, .int p1)] → W p l e (headSpec (Cond.code yX12_setGuard cX12_setGuard 7 (some .int) :: lw_all) ({ frames := 2, cells := 0, slots := 0, locals := 44 } : Room)).room s m ([.ref (ad 0), .int p1, .int p2, .int p3, .int p4] : List Value).toArray below meth c H locs 0 0 (MQ below (va_Qi Q (rt_B D cA ad) (rt_fr ad s.heap.size)) ([.ref (ad 0), .int p1, .int p2, .int p3, .int p4] : List Value).toArray s 0 0 (rt_fr ad s.heap.size)) (F0 m 68 ls [.int xs1, .ref (ad 0)]) := by
    intro xs1 M H locs ls hw hP hS hl
    unfold wjX12_setGuard_68 at hw
    refine lv_iconst (v := 3) hx hb dX12_setGuard_68 (by decide) ?_
    refine rt_calli (rt_runV (n := 2) (As := [.int xs1, .int 3]) (rest := []) F hP hN hS (rt_frs hS.1) (rt_c12 _ rt_k0) (rt_l12 rt_k0) rfl (mtX12_refuse l D cA ad hI _ xs1 3 M _ hw) kw_1175 kw_1172 kw_60 kw_1174 kw_29 ⟨by decide, by decide, by decide +kernel⟩ ⟨rfl, rfl, Nat.le_of_ble_eq_true rfl, Nat.le_of_ble_eq_true rfl⟩ rfl hl.1 rfl (Nat.le_of_ble_eq_true rfl) dX12_setGuard_69 ⟨Nat.zero_le _, Nat.zero_le _⟩) hS (fun _ h => h) (fun r_69 M_69 H locs hw hP hS _ _ => ?_)
    refine lv_if_eq (tgt := 77) hx hb dX12_setGuard_72 (by decide) (fun hc72 => ?_) (fun hc72 => ?_)
    · replace hw := hw.1 hc72
      refine lv_aload_n hx hb dX12_setGuard_77 rfl (lv_at hl 0 rfl) ?_
      refine rt_get F hP (rt_c12 _ rt_k0) (rt_l12 rt_k0) inX12 rfl 1 (by decide) kw_1140 rfl rfl dX12_setGuard_78 ?_
      refine rt_get F hP (rt_c8 _ rt_k1) (rt_l8 rt_k1) inX8 rfl 1 (by decide) kw_988 rfl rfl dX12_setGuard_81 ?_
      refine lv_iload_n hx hb dX12_setGuard_84 rfl (lv_at hl 1 rfl) ?_
      exact hw.elim
    · replace hw := hw.2 hc72
      exact J75 M_69 _ _ _ hw hP hS (lv_sub hl [] rfl)
  have J67 : ∀ (M : pt_M) (H : Heap) (locs : List Loc) (ls : Array Slot), wjX12_setGuard_67 p1 p2 p3 p4 Q M → va_P D pt_cl (rt_W cA ad M) H → va_S (rt_fr ad s.heap.size) s.heap H locs → lv_has ls 7 [(0, .ref (ad 0)), (1, .int p1)] → W p l e (headSpec (Cond.code yX12_setGuard cX12_setGuard 7 (some .int) :: lw_all) ({ frames := 2, cells := 0, slots := 0, locals := 44 } : Room)).room s m ([.ref (ad 0), .int p1, .int p2, .int p3, .int p4] : List Value).toArray below meth c H locs 0 0 (MQ below (va_Qi Q (rt_B D cA ad) (rt_fr ad s.heap.size)) ([.ref (ad 0), .int p1, .int p2, .int p3, .int p4] : List Value).toArray s 0 0 (rt_fr ad s.heap.size)) (F0 m 67 ls [.ref (ad 0)]) := by
    intro M H locs ls hw hP hS hl
    unfold wjX12_setGuard_67 at hw
    refine lv_iconst (v := 0) hx hb dX12_setGuard_67 (by decide) ?_
    exact J68 0 M _ _ _ hw hP hS (lv_sub hl [0, 1] rfl)
  have J63 : ∀ (M : pt_M) (H : Heap) (locs : List Loc) (ls : Array Slot), wjX12_setGuard_63 p1 p2 p3 p4 Q M → va_P D pt_cl (rt_W cA ad M) H → va_S (rt_fr ad s.heap.size) s.heap H locs → lv_has ls 7 [(0, .ref (ad 0)), (1, .int p1)] → W p l e (headSpec (Cond.code yX12_setGuard cX12_setGuard 7 (some .int) :: lw_all) ({ frames := 2, cells := 0, slots := 0, locals := 44 } : Room)).room s m ([.ref (ad 0), .int p1, .int p2, .int p3, .int p4] : List Value).toArray below meth c H locs 0 0 (MQ below (va_Qi Q (rt_B D cA ad) (rt_fr ad s.heap.size)) ([.ref (ad 0), .int p1, .int p2, .int p3, .int p4] : List Value).toArray s 0 0 (rt_fr ad s.heap.size)) (F0 m 63 ls [.ref (ad 0)]) := by
    intro M H locs ls hw hP hS hl
    unfold wjX12_setGuard_63 at hw
    refine lv_iconst (v := 1) hx hb dX12_setGuard_63 (by decide) ?_
    refine lv_goto (tgt := 68) hx hb dX12_setGuard_64 (by decide) ?_
    exact J68 1 M _ _ _ hw hP hS (lv_sub hl [0, 1] rfl)
  unfold wpX12_setGuard at hw
  refine lv_aload_n hx hb dX12_setGuard_0 rfl (lv_at hl 0 rfl) ?_
  refine lv_aload_n hx hb dX12_setGuard_1 rfl (lv_at hl 0 rfl) ?_
  refine rt_get F hP (rt_c12 _ rt_k0) (rt_l12 rt_k0) inX12 rfl 2 (by decide) kw_1142 rfl rfl dX12_setGuard_2 ?_
  refine rt_get F hP (rt_c9 _ rt_k6) (rt_l9 rt_k6) inX9 rfl 0 (by decide) kw_1004 rfl rfl dX12_setGuard_5 ?_
  refine lv_iconst (v := 1) hx hb dX12_setGuard_8 (by decide) ?_
  refine rt_calli (rt_runV (n := 2) (As := [.int (M 6 0), .int 1]) (rest := []) F hP hN hS (rt_frs hS.1) (rt_c12 _ rt_k0) (rt_l12 rt_k0) rfl (mtX12_start l D cA ad hI _ (M 6 0) 1 M _ hw) kw_1171 kw_1168 kw_60 kw_1170 kw_28 ⟨by decide, by decide, by decide +kernel⟩ ⟨rfl, rfl, Nat.le_of_ble_eq_true rfl, Nat.le_of_ble_eq_true rfl⟩ rfl hl.1 rfl (Nat.le_of_ble_eq_true rfl) dX12_setGuard_9 ⟨Nat.zero_le _, Nat.zero_le _⟩) hS (fun _ h => h) (fun r_9 M_9 H locs hw hP hS _ _ => ?_)
  refine lv_if_ne (tgt := 75) hx hb dX12_setGuard_12 (by decide) (fun hc12 => ?_) (fun hc12 => ?_)
  · replace hw := hw.1 hc12
    exact J75 M_9 _ _ _ hw hP hS (lv_sub hl [] rfl)
  · replace hw := hw.2 hc12
    refine lv_aload_n hx hb dX12_setGuard_15 rfl (lv_at hl 0 rfl) ?_
    refine lv_aload_n hx hb dX12_setGuard_16 rfl (lv_at hl 0 rfl) ?_
    refine lv_iload_n hx hb dX12_setGuard_17 rfl (lv_at hl 1 rfl) ?_
    refine rt_calli (rt_runV (n := 1) (As := [.int p1]) (rest := [.ref (ad 0)]) F hP hN hS (rt_frs hS.1) (rt_c12 _ rt_k0) (rt_l12 rt_k0) rfl (mtX12_isNoTransition l D cA ad hI _ p1 M_9 _ hw) kw_1292 kw_1289 kw_60 kw_1291 kw_31 ⟨by decide, by decide, by decide +kernel⟩ ⟨rfl, rfl, Nat.le_of_ble_eq_true rfl, Nat.le_of_ble_eq_true rfl⟩ rfl hl.1 rfl (Nat.le_of_ble_eq_true rfl) dX12_setGuard_18 ⟨Nat.zero_le _, Nat.zero_le _⟩) hS (fun _ h => h) (fun r_18 M_18 H locs hw hP hS _ _ => ?_)
    refine lv_iconst (v := 2) hx hb dX12_setGuard_21 (by decide) ?_
    refine rt_calli (rt_runV (n := 2) (As := [.int r_18, .int 2]) (rest := []) F hP hN hS (rt_frs hS.1) (rt_c12 _ rt_k0) (rt_l12 rt_k0) rfl (mtX12_refuse l D cA ad hI _ r_18 2 M_18 _ hw) kw_1175 kw_1172 kw_60 kw_1174 kw_29 ⟨by decide, by decide, by decide +kernel⟩ ⟨rfl, rfl, Nat.le_of_ble_eq_true rfl, Nat.le_of_ble_eq_true rfl⟩ rfl hl.1 rfl (Nat.le_of_ble_eq_true rfl) dX12_setGuard_22 ⟨Nat.zero_le _, Nat.zero_le _⟩) hS (fun _ h => h) (fun r_22 M_22 H locs hw hP hS _ _ => ?_)
    refine lv_if_ne (tgt := 75) hx hb dX12_setGuard_25 (by decide) (fun hc25 => ?_) (fun hc25 => ?_)
    · replace hw := hw.1 hc25
      exact J75 M_22 _ _ _ hw hP hS (lv_sub hl [] rfl)
    · replace hw := hw.2 hc25
      refine lv_aload_n hx hb dX12_setGuard_28 rfl (lv_at hl 0 rfl) ?_
      refine lv_iload_n hx hb dX12_setGuard_29 rfl (lv_at hl 2 rfl) ?_
      refine lv_iconst (v := 0) hx hb dX12_setGuard_30 (by decide) ?_
      refine lv_iconst (v := 3) hx hb dX12_setGuard_31 (by decide) ?_
      refine rt_calli (rt_runS (n := 3) (As := [.int p2, .int 0, .int 3]) (rest := [.ref (ad 0)]) F hP hN hS (rt_frs hS.1) (mtX12_isIn l D cA ad hI _ p2 0 3 M_22 _ hw) kw_1182 kw_1180 kw_60 kw_1181 ⟨by decide, by decide, by decide +kernel⟩ ⟨rfl, rfl, Nat.le_of_ble_eq_true rfl, Nat.le_of_ble_eq_true rfl⟩ rfl hl.1 rfl (Nat.le_of_ble_eq_true rfl) dX12_setGuard_32 ⟨Nat.zero_le _, Nat.zero_le _⟩) hS (fun _ h => h) (fun r_32 M_32 H locs hw hP hS _ _ => ?_)
      refine lv_if_eq (tgt := 63) hx hb dX12_setGuard_35 (by decide) (fun hc35 => ?_) (fun hc35 => ?_)
      · replace hw := hw.1 hc35
        exact J63 M_32 _ _ _ hw hP hS (lv_sub hl [0, 1] rfl)
      · replace hw := hw.2 hc35
        refine lv_iload_n hx hb dX12_setGuard_38 rfl (lv_at hl 2 rfl) ?_
        refine lv_if_le (tgt := 67) hx hb dX12_setGuard_39 (by decide) (fun hc39 => ?_) (fun hc39 => ?_)
        · replace hw := hw.1 hc39
          exact J67 M_32 _ _ _ hw hP hS (lv_sub hl [0, 1] rfl)
        · replace hw := hw.2 hc39
          refine lv_iload_n hx hb dX12_setGuard_42 rfl (lv_at hl 3 rfl) ?_
          refine lv_iconst (v := 0) hx hb dX12_setGuard_43 (by decide) ?_
          refine lv_iconst (v := 3) hx hb dX12_setGuard_44 (by decide) ?_
          refine rt_calli (rt_runS (n := 3) (As := [.int p3, .int 0, .int 3]) (rest := [.ref (ad 0)]) F hP hN hS (rt_frs hS.1) (mtX12_isIn l D cA ad hI _ p3 0 3 M_32 _ hw) kw_1182 kw_1180 kw_60 kw_1181 ⟨by decide, by decide, by decide +kernel⟩ ⟨rfl, rfl, Nat.le_of_ble_eq_true rfl, Nat.le_of_ble_eq_true rfl⟩ rfl hl.1 rfl (Nat.le_of_ble_eq_true rfl) dX12_setGuard_45 ⟨Nat.zero_le _, Nat.zero_le _⟩) hS (fun _ h => h) (fun r_45 M_45 H locs hw hP hS _ _ => ?_)
          refine lv_if_eq (tgt := 63) hx hb dX12_setGuard_48 (by decide) (fun hc48 => ?_) (fun hc48 => ?_)
          · replace hw := hw.1 hc48
            exact J63 M_45 _ _ _ hw hP hS (lv_sub hl [0, 1] rfl)
          · replace hw := hw.2 hc48
            refine lv_iload hx hb dX12_setGuard_51 (lv_at hl 4 rfl) ?_
            refine lv_bipush (v := (-99)) hx hb dX12_setGuard_53 (by decide) ?_
            refine lv_bipush (v := 99) hx hb dX12_setGuard_55 (by decide) ?_
            refine rt_calli (rt_runS (n := 3) (As := [.int p4, .int (-99), .int 99]) (rest := [.ref (ad 0)]) F hP hN hS (rt_frs hS.1) (mtX12_isIn l D cA ad hI _ p4 (-99) 99 M_45 _ hw) kw_1182 kw_1180 kw_60 kw_1181 ⟨by decide, by decide, by decide +kernel⟩ ⟨rfl, rfl, Nat.le_of_ble_eq_true rfl, Nat.le_of_ble_eq_true rfl⟩ rfl hl.1 rfl (Nat.le_of_ble_eq_true rfl) dX12_setGuard_57 ⟨Nat.zero_le _, Nat.zero_le _⟩) hS (fun _ h => h) (fun r_57 M_57 H locs hw hP hS _ _ => ?_)
            refine lv_if_ne (tgt := 67) hx hb dX12_setGuard_60 (by decide) (fun hc60 => ?_) (fun hc60 => ?_)
            · replace hw := hw.1 hc60
              exact J67 M_57 _ _ _ hw hP hS (lv_sub hl [0, 1] rfl)
            · replace hw := hw.2 hc60
              exact J63 M_57 _ _ _ hw hP hS (lv_sub hl [0, 1] rfl)
-- ===== X12_setAction
def wjX12_setAction_43 (p1 : Int32) (p2 : Int32) (p3 : Int32) (p4 : Int32) (Q : Int32 → pt_M → Prop)   (M : pt_M) : Prop :=
  Q 0 M
def wpX12_setAction (p1 : Int32) (p2 : Int32) (p3 : Int32) (p4 : Int32) (M : pt_M) (Q : Int32 → pt_M → Prop) : Prop :=
  wpX12_start (M 6 0) 1 M (fun (r_9 : Int32) (M_9 : pt_M) => (¬ r_9 = 0 → wjX12_setAction_43 p1 p2 p3 p4 Q M_9) ∧ (r_9 = 0 → wpX12_isNoTransition p1 M_9 (fun (r_18 : Int32) (M_18 : pt_M) => wpX12_refuse r_18 2 M_18 (fun (r_22 : Int32) (M_22 : pt_M) => (¬ r_22 = 0 → wjX12_setAction_43 p1 p2 p3 p4 Q M_22) ∧ (r_22 = 0 → wpX12_isNoAction p2 p3 p4 M_22 (fun (r_33 : Int32) (M_33 : pt_M) => wpX12_refuse r_33 3 M_33 (fun (r_37 : Int32) (M_37 : pt_M) => (r_37 = 0 → False) ∧ (¬ r_37 = 0 → wjX12_setAction_43 p1 p2 p3 p4 Q M_37))))))))
set_option maxHeartbeats 4000000 in
set_option maxRecDepth 100000 in
theorem mtX12_setAction (l : Launch) (D : va_G) (cA : Nat → ClassId) (ad : Nat → Nat) (hI : rt_I ad) (sz : Nat) (p1 : Int32) (p2 : Int32) (p3 : Int32) (p4 : Int32) (M : pt_M) (Q : Int32 → pt_M → Prop) (hw : wpX12_setAction p1 p2 p3 p4 M Q) : Met l yX12_setAction (Cond.code yX12_setAction cX12_setAction 7 (some .int) :: lw_all) ({ frames := 2, cells := 0, slots := 0, locals := 44 } : Room) (va_Pc [.ref (ad 0), .int p1, .int p2, .int p3, .int p4] (rt_P D cA ad sz M)) (va_Qi Q (rt_B D cA ad) (rt_fr ad sz)) 0 0 (rt_fr ad sz) := by
  refine Met.ofW (cc := cX12_setAction) (maxL := 7) (ret := (some .int)) (by decide) rfl ?_
  intro p e s m args below meth c s₁ B hml hv
  obtain ⟨rfl, hsz, hP, hK, hN⟩ := hv
  have hx := B.exec
  have hb := B.bytes
  have hr := B.returns
  have hts0 := atoms_spec (ws := (Cond.code yX12_setAction cX12_setAction 7 (some .int) :: lw_all)) B.pre
  have hown : s.vm.findClass RX12 = some m.cls := findClass_of_methodNamed B.named
  have hlocks := B.notSynchronized
  subst hsz
  have F : pt_F p m c cX12_setAction 7 s _ RX12 D cA := ⟨⟨hx, hb, hml, hown, fun w h => hts0 w (List.mem_cons_of_mem _ h)⟩, hK⟩
  have hD : ∀ M, va_D (rt_fr ad s.heap.size) (rt_W cA ad M) := rt_D hI (fun k h => Or.inl ⟨k, h, rfl⟩)
  have hS : va_S (rt_fr ad s.heap.size) s.heap s.heap [] := va_S.rf
  have hl := lv_entry ([.ref (ad 0), .int p1, .int p2, .int p3, .int p4]) (n := 7) (Nat.le_of_ble_eq_true rfl)
  rw [lg_entry_eq]
  generalize (lg_sl ([.ref (ad 0), .int p1, .int p2, .int p3, .int p4]) ++ List.replicate (7 - (lg_sl ([.ref (ad 0), .int p1, .int p2, .int p3, .int p4])).length) Slot.unset).toArray = ls at hl ⊢
  have hl : lv_has ls 7 [(0, .ref (ad 0)), (1, .int p1), (2, .int p2), (3, .int p3), (4, .int p4)] := hl
  have J43 : ∀ (M : pt_M) (H : Heap) (locs : List Loc) (ls : Array Slot), wjX12_setAction_43 p1 p2 p3 p4 Q M → va_P D pt_cl (rt_W cA ad M) H → va_S (rt_fr ad s.heap.size) s.heap H locs → lv_has ls 7 [] → W p l e (headSpec (Cond.code yX12_setAction cX12_setAction 7 (some .int) :: lw_all) ({ frames := 2, cells := 0, slots := 0, locals := 44 } : Room)).room s m ([.ref (ad 0), .int p1, .int p2, .int p3, .int p4] : List Value).toArray below meth c H locs 0 0 (MQ below (va_Qi Q (rt_B D cA ad) (rt_fr ad s.heap.size)) ([.ref (ad 0), .int p1, .int p2, .int p3, .int p4] : List Value).toArray s 0 0 (rt_fr ad s.heap.size)) (F0 m 43 ls []) := by
    intro M H locs ls hw hP hS hl
    unfold wjX12_setAction_43 at hw
    refine lv_iconst (v := 0) hx hb dX12_setAction_43 (by decide) ?_
    exact W.iret (v := 0) hx hb hr (fun t ht hW => ⟨⟨0, M, rfl, hw, by unfold rt_B; rw [ht]; exact hP⟩, hS.F ht⟩) hS.2.2 dX12_setAction_44
  unfold wpX12_setAction at hw
  refine lv_aload_n hx hb dX12_setAction_0 rfl (lv_at hl 0 rfl) ?_
  refine lv_aload_n hx hb dX12_setAction_1 rfl (lv_at hl 0 rfl) ?_
  refine rt_get F hP (rt_c12 _ rt_k0) (rt_l12 rt_k0) inX12 rfl 2 (by decide) kw_1142 rfl rfl dX12_setAction_2 ?_
  refine rt_get F hP (rt_c9 _ rt_k6) (rt_l9 rt_k6) inX9 rfl 0 (by decide) kw_1004 rfl rfl dX12_setAction_5 ?_
  refine lv_iconst (v := 1) hx hb dX12_setAction_8 (by decide) ?_
  refine rt_calli (rt_runV (n := 2) (As := [.int (M 6 0), .int 1]) (rest := []) F hP hN hS (rt_frs hS.1) (rt_c12 _ rt_k0) (rt_l12 rt_k0) rfl (mtX12_start l D cA ad hI _ (M 6 0) 1 M _ hw) kw_1171 kw_1168 kw_60 kw_1170 kw_28 ⟨by decide, by decide, by decide +kernel⟩ ⟨rfl, rfl, Nat.le_of_ble_eq_true rfl, Nat.le_of_ble_eq_true rfl⟩ rfl hl.1 rfl (Nat.le_of_ble_eq_true rfl) dX12_setAction_9 ⟨Nat.zero_le _, Nat.zero_le _⟩) hS (fun _ h => h) (fun r_9 M_9 H locs hw hP hS _ _ => ?_)
  refine lv_if_ne (tgt := 43) hx hb dX12_setAction_12 (by decide) (fun hc12 => ?_) (fun hc12 => ?_)
  · replace hw := hw.1 hc12
    exact J43 M_9 _ _ _ hw hP hS (lv_sub hl [] rfl)
  · replace hw := hw.2 hc12
    refine lv_aload_n hx hb dX12_setAction_15 rfl (lv_at hl 0 rfl) ?_
    refine lv_aload_n hx hb dX12_setAction_16 rfl (lv_at hl 0 rfl) ?_
    refine lv_iload_n hx hb dX12_setAction_17 rfl (lv_at hl 1 rfl) ?_
    refine rt_calli (rt_runV (n := 1) (As := [.int p1]) (rest := [.ref (ad 0)]) F hP hN hS (rt_frs hS.1) (rt_c12 _ rt_k0) (rt_l12 rt_k0) rfl (mtX12_isNoTransition l D cA ad hI _ p1 M_9 _ hw) kw_1292 kw_1289 kw_60 kw_1291 kw_31 ⟨by decide, by decide, by decide +kernel⟩ ⟨rfl, rfl, Nat.le_of_ble_eq_true rfl, Nat.le_of_ble_eq_true rfl⟩ rfl hl.1 rfl (Nat.le_of_ble_eq_true rfl) dX12_setAction_18 ⟨Nat.zero_le _, Nat.zero_le _⟩) hS (fun _ h => h) (fun r_18 M_18 H locs hw hP hS _ _ => ?_)
    refine lv_iconst (v := 2) hx hb dX12_setAction_21 (by decide) ?_
    refine rt_calli (rt_runV (n := 2) (As := [.int r_18, .int 2]) (rest := []) F hP hN hS (rt_frs hS.1) (rt_c12 _ rt_k0) (rt_l12 rt_k0) rfl (mtX12_refuse l D cA ad hI _ r_18 2 M_18 _ hw) kw_1175 kw_1172 kw_60 kw_1174 kw_29 ⟨by decide, by decide, by decide +kernel⟩ ⟨rfl, rfl, Nat.le_of_ble_eq_true rfl, Nat.le_of_ble_eq_true rfl⟩ rfl hl.1 rfl (Nat.le_of_ble_eq_true rfl) dX12_setAction_22 ⟨Nat.zero_le _, Nat.zero_le _⟩) hS (fun _ h => h) (fun r_22 M_22 H locs hw hP hS _ _ => ?_)
    refine lv_if_ne (tgt := 43) hx hb dX12_setAction_25 (by decide) (fun hc25 => ?_) (fun hc25 => ?_)
    · replace hw := hw.1 hc25
      exact J43 M_22 _ _ _ hw hP hS (lv_sub hl [] rfl)
    · replace hw := hw.2 hc25
      refine lv_aload_n hx hb dX12_setAction_28 rfl (lv_at hl 0 rfl) ?_
      refine lv_iload_n hx hb dX12_setAction_29 rfl (lv_at hl 2 rfl) ?_
      refine lv_iload_n hx hb dX12_setAction_30 rfl (lv_at hl 3 rfl) ?_
      refine lv_iload hx hb dX12_setAction_31 (lv_at hl 4 rfl) ?_
      refine rt_calli (rt_runS (n := 3) (As := [.int p2, .int p3, .int p4]) (rest := [.ref (ad 0)]) F hP hN hS (rt_frs hS.1) (mtX12_isNoAction l D cA ad hI _ p2 p3 p4 M_22 _ hw) kw_1244 kw_1242 kw_60 kw_1243 ⟨by decide, by decide, by decide +kernel⟩ ⟨rfl, rfl, Nat.le_of_ble_eq_true rfl, Nat.le_of_ble_eq_true rfl⟩ rfl hl.1 rfl (Nat.le_of_ble_eq_true rfl) dX12_setAction_33 ⟨Nat.zero_le _, Nat.zero_le _⟩) hS (fun _ h => h) (fun r_33 M_33 H locs hw hP hS _ _ => ?_)
      refine lv_iconst (v := 3) hx hb dX12_setAction_36 (by decide) ?_
      refine rt_calli (rt_runV (n := 2) (As := [.int r_33, .int 3]) (rest := []) F hP hN hS (rt_frs hS.1) (rt_c12 _ rt_k0) (rt_l12 rt_k0) rfl (mtX12_refuse l D cA ad hI _ r_33 3 M_33 _ hw) kw_1175 kw_1172 kw_60 kw_1174 kw_29 ⟨by decide, by decide, by decide +kernel⟩ ⟨rfl, rfl, Nat.le_of_ble_eq_true rfl, Nat.le_of_ble_eq_true rfl⟩ rfl hl.1 rfl (Nat.le_of_ble_eq_true rfl) dX12_setAction_37 ⟨Nat.zero_le _, Nat.zero_le _⟩) hS (fun _ h => h) (fun r_37 M_37 H locs hw hP hS _ _ => ?_)
      refine lv_if_eq (tgt := 45) hx hb dX12_setAction_40 (by decide) (fun hc40 => ?_) (fun hc40 => ?_)
      · replace hw := hw.1 hc40
        refine lv_aload_n hx hb dX12_setAction_45 rfl (lv_at hl 0 rfl) ?_
        refine rt_get F hP (rt_c12 _ rt_k0) (rt_l12 rt_k0) inX12 rfl 1 (by decide) kw_1140 rfl rfl dX12_setAction_46 ?_
        refine rt_get F hP (rt_c8 _ rt_k1) (rt_l8 rt_k1) inX8 rfl 1 (by decide) kw_988 rfl rfl dX12_setAction_49 ?_
        refine lv_iload_n hx hb dX12_setAction_52 rfl (lv_at hl 1 rfl) ?_
        exact hw.elim
      · replace hw := hw.2 hc40
        exact J43 M_37 _ _ _ hw hP hS (lv_sub hl [] rfl)
-- ===== X12_stop
def wjX12_stop_16  (Q : Int32 → pt_M → Prop)  (xs1 : Int32) (M : pt_M) : Prop :=
  wpX12_start xs1 1 M (fun (r_17 : Int32) (M_17 : pt_M) => (r_17 = 0 → wpPJ6_bitCount (M_17 6 1) M_17 (fun (r_32 : Int32) (_ : pt_M) => ∀ M_41 : pt_M, M_41 = pt_st M_17 6 0 0 → ∀ M_49 : pt_M, M_49 = pt_st M_41 6 1 0 → Q r_32 M_49)) ∧ (¬ r_17 = 0 → Q 0 M_17))
def wpX12_stop  (M : pt_M) (Q : Int32 → pt_M → Prop) : Prop :=
  (¬ (M 6 0) = 0 → wjX12_stop_16 Q 0 M) ∧ ((M 6 0) = 0 → wjX12_stop_16 Q 1 M)
set_option maxHeartbeats 4000000 in
set_option maxRecDepth 100000 in
theorem mtX12_stop (l : Launch) (D : va_G) (cA : Nat → ClassId) (ad : Nat → Nat) (hI : rt_I ad) (sz : Nat) (M : pt_M) (Q : Int32 → pt_M → Prop) (hw : wpX12_stop M Q) : Met l yX12_stop (Cond.code yX12_stop cX12_stop 2 (some .int) :: lw_all) ({ frames := 2, cells := 0, slots := 0, locals := 44 } : Room) (va_Pc [.ref (ad 0)] (rt_P D cA ad sz M)) (va_Qi Q (rt_B D cA ad) (rt_fr ad sz)) 0 0 (rt_fr ad sz) := by
  refine Met.ofW (cc := cX12_stop) (maxL := 2) (ret := (some .int)) (by decide) rfl ?_
  intro p e s m args below meth c s₁ B hml hv
  obtain ⟨rfl, hsz, hP, hK, hN⟩ := hv
  have hx := B.exec
  have hb := B.bytes
  have hr := B.returns
  have hts0 := atoms_spec (ws := (Cond.code yX12_stop cX12_stop 2 (some .int) :: lw_all)) B.pre
  have hown : s.vm.findClass RX12 = some m.cls := findClass_of_methodNamed B.named
  have hlocks := B.notSynchronized
  subst hsz
  have F : pt_F p m c cX12_stop 2 s _ RX12 D cA := ⟨⟨hx, hb, hml, hown, fun w h => hts0 w (List.mem_cons_of_mem _ h)⟩, hK⟩
  have hD : ∀ M, va_D (rt_fr ad s.heap.size) (rt_W cA ad M) := rt_D hI (fun k h => Or.inl ⟨k, h, rfl⟩)
  have hS : va_S (rt_fr ad s.heap.size) s.heap s.heap [] := va_S.rf
  have hl := lv_entry ([.ref (ad 0)]) (n := 2) (Nat.le_of_ble_eq_true rfl)
  rw [lg_entry_eq]
  generalize (lg_sl ([.ref (ad 0)]) ++ List.replicate (2 - (lg_sl ([.ref (ad 0)])).length) Slot.unset).toArray = ls at hl ⊢
  have hl : lv_has ls 2 [(0, .ref (ad 0))] := hl
  have J16 : ∀ (xs1 : Int32) (M : pt_M) (H : Heap) (locs : List Loc) (ls : Array Slot), wjX12_stop_16 Q xs1 M → va_P D pt_cl (rt_W cA ad M) H → va_S (rt_fr ad s.heap.size) s.heap H locs → lv_has ls 2 [(0, .ref (ad 0))] → W p l e (headSpec (Cond.code yX12_stop cX12_stop 2 (some .int) :: lw_all) ({ frames := 2, cells := 0, slots := 0, locals := 44 } : Room)).room s m ([.ref (ad 0)] : List Value).toArray below meth c H locs 0 0 (MQ below (va_Qi Q (rt_B D cA ad) (rt_fr ad s.heap.size)) ([.ref (ad 0)] : List Value).toArray s 0 0 (rt_fr ad s.heap.size)) (F0 m 16 ls [.int xs1, .ref (ad 0)]) := by
    intro xs1 M H locs ls hw hP hS hl
    unfold wjX12_stop_16 at hw
    refine lv_iconst (v := 1) hx hb dX12_stop_16 (by decide) ?_
    refine rt_calli (rt_runV (n := 2) (As := [.int xs1, .int 1]) (rest := []) F hP hN hS (rt_frs hS.1) (rt_c12 _ rt_k0) (rt_l12 rt_k0) rfl (mtX12_start l D cA ad hI _ xs1 1 M _ hw) kw_1171 kw_1168 kw_60 kw_1170 kw_28 ⟨by decide, by decide, by decide +kernel⟩ ⟨rfl, rfl, Nat.le_of_ble_eq_true rfl, Nat.le_of_ble_eq_true rfl⟩ rfl hl.1 rfl (Nat.le_of_ble_eq_true rfl) dX12_stop_17 ⟨Nat.zero_le _, Nat.zero_le _⟩) hS (fun _ h => h) (fun r_17 M_17 H locs hw hP hS _ _ => ?_)
    refine lv_if_eq (tgt := 25) hx hb dX12_stop_20 (by decide) (fun hc20 => ?_) (fun hc20 => ?_)
    · replace hw := hw.1 hc20
      refine lv_aload_n hx hb dX12_stop_25 rfl (lv_at hl 0 rfl) ?_
      refine rt_get F hP (rt_c12 _ rt_k0) (rt_l12 rt_k0) inX12 rfl 2 (by decide) kw_1142 rfl rfl dX12_stop_26 ?_
      refine rt_get F hP (rt_c9 _ rt_k6) (rt_l9 rt_k6) inX9 rfl 1 (by decide) kw_1006 rfl rfl dX12_stop_29 ?_
      refine rt_callp (pt_runP (n := 1) (As := [.int (M_17 6 1)]) (rest := []) F (mtPJ6_bitCount l D cA (M_17 6 1) M_17 _ hw) rt_kblind (fun U _ hW => va_K.moved hW.alike F.2) kw_443 kw_1445 kw_80 kw_442 ⟨by decide, by decide, by decide +kernel⟩ ⟨rfl, rfl, (Nat.le_of_ble_eq_true rfl), (Nat.le_of_ble_eq_true rfl)⟩ rfl hl.1 rfl (Nat.le_of_ble_eq_true rfl) dX12_stop_32 ⟨Nat.zero_le _, Nat.zero_le _⟩) hP hS (fun r_32 H locs hw hP hS => ?_)
      refine lv_istore_n (lv' := [(1, .int r_32), (0, .ref (ad 0))]) hx hb dX12_stop_35 rfl hl (by decide) rfl (fun ls hl => ?_)
      refine lv_aload_n hx hb dX12_stop_36 rfl (lv_at hl 1 rfl) ?_
      refine rt_get F hP (rt_c12 _ rt_k0) (rt_l12 rt_k0) inX12 rfl 2 (by decide) kw_1142 rfl rfl dX12_stop_37 ?_
      refine lv_iconst (v := 0) hx hb dX12_stop_40 (by decide) ?_
      refine rt_put F hP hD hS (rt_c9 _ rt_k6) (rt_l9 rt_k6) inX9 tyX9 tyX9_ok nmX9 rfl 0 (by decide) kw_1004 rfl rfl rfl rfl (Nat.le_of_ble_eq_true rfl) (rt_c9 _ rt_k6) dX12_stop_41 (fun M_41 H locs eM_41 hP hS => ?_)
      replace hw := hw M_41 eM_41
      refine lv_aload_n hx hb dX12_stop_44 rfl (lv_at hl 1 rfl) ?_
      refine rt_get F hP (rt_c12 _ rt_k0) (rt_l12 rt_k0) inX12 rfl 2 (by decide) kw_1142 rfl rfl dX12_stop_45 ?_
      refine lv_iconst (v := 0) hx hb dX12_stop_48 (by decide) ?_
      refine rt_put F hP hD hS (rt_c9 _ rt_k6) (rt_l9 rt_k6) inX9 tyX9 tyX9_ok nmX9 rfl 1 (by decide) kw_1006 rfl rfl rfl rfl (Nat.le_of_ble_eq_true rfl) (rt_c9 _ rt_k6) dX12_stop_49 (fun M_49 H locs eM_49 hP hS => ?_)
      replace hw := hw M_49 eM_49
      refine lv_iload_n hx hb dX12_stop_52 rfl (lv_at hl 0 rfl) ?_
      exact W.iret (v := r_32) hx hb hr (fun t ht hW => ⟨⟨r_32, M_49, rfl, hw, by unfold rt_B; rw [ht]; exact hP⟩, hS.F ht⟩) hS.2.2 dX12_stop_53
    · replace hw := hw.2 hc20
      refine lv_iconst (v := 0) hx hb dX12_stop_23 (by decide) ?_
      exact W.iret (v := 0) hx hb hr (fun t ht hW => ⟨⟨0, M_17, rfl, hw, by unfold rt_B; rw [ht]; exact hP⟩, hS.F ht⟩) hS.2.2 dX12_stop_24
  unfold wpX12_stop at hw
  refine lv_aload_n hx hb dX12_stop_0 rfl (lv_at hl 0 rfl) ?_
  refine lv_aload_n hx hb dX12_stop_1 rfl (lv_at hl 0 rfl) ?_
  refine rt_get F hP (rt_c12 _ rt_k0) (rt_l12 rt_k0) inX12 rfl 2 (by decide) kw_1142 rfl rfl dX12_stop_2 ?_
  refine rt_get F hP (rt_c9 _ rt_k6) (rt_l9 rt_k6) inX9 rfl 0 (by decide) kw_1004 rfl rfl dX12_stop_5 ?_
  refine lv_if_ne (tgt := 15) hx hb dX12_stop_8 (by decide) (fun hc8 => ?_) (fun hc8 => ?_)
  · replace hw := hw.1 hc8
    refine lv_iconst (v := 0) hx hb dX12_stop_15 (by decide) ?_
    exact J16 0 M _ _ _ hw hP hS (lv_sub hl [0] rfl)
  · replace hw := hw.2 hc8
    refine lv_iconst (v := 1) hx hb dX12_stop_11 (by decide) ?_
    refine lv_goto (tgt := 16) hx hb dX12_stop_12 (by decide) ?_
    exact J16 1 M _ _ _ hw hP hS (lv_sub hl [0] rfl)
-- ===== X12_send
def wjX12_send_46 (p1 : Int32) (Q : Int32 → pt_M → Prop)   (M : pt_M) : Prop :=
  Q 0 M
def wjX12_send_39 (p1 : Int32) (Q : Int32 → pt_M → Prop)  (xs1 : Int32) (M : pt_M) : Prop :=
  wpX12_refuse xs1 2 M (fun (r_40 : Int32) (M_40 : pt_M) => (r_40 = 0 → False) ∧ (¬ r_40 = 0 → wjX12_send_46 p1 Q M_40))
def wjX12_send_16 (p1 : Int32) (Q : Int32 → pt_M → Prop)  (xs1 : Int32) (M : pt_M) : Prop :=
  wpX12_start xs1 1 M (fun (r_17 : Int32) (M_17 : pt_M) => (¬ r_17 = 0 → wjX12_send_46 p1 Q M_17) ∧ (r_17 = 0 → wpX12_isIn p1 0 9 M_17 (fun (r_28 : Int32) (M_28 : pt_M) => (¬ r_28 = 0 → wjX12_send_39 p1 Q 0 M_28) ∧ (r_28 = 0 → wjX12_send_39 p1 Q 1 M_28))))
def wpX12_send (p1 : Int32) (M : pt_M) (Q : Int32 → pt_M → Prop) : Prop :=
  (¬ (M 6 0) = 0 → wjX12_send_16 p1 Q 0 M) ∧ ((M 6 0) = 0 → wjX12_send_16 p1 Q 1 M)
set_option maxHeartbeats 4000000 in
set_option maxRecDepth 100000 in
theorem mtX12_send (l : Launch) (D : va_G) (cA : Nat → ClassId) (ad : Nat → Nat) (hI : rt_I ad) (sz : Nat) (p1 : Int32) (M : pt_M) (Q : Int32 → pt_M → Prop) (hw : wpX12_send p1 M Q) : Met l yX12_send (Cond.code yX12_send cX12_send 2 (some .int) :: lw_all) ({ frames := 2, cells := 0, slots := 0, locals := 44 } : Room) (va_Pc [.ref (ad 0), .int p1] (rt_P D cA ad sz M)) (va_Qi Q (rt_B D cA ad) (rt_fr ad sz)) 0 0 (rt_fr ad sz) := by
  refine Met.ofW (cc := cX12_send) (maxL := 2) (ret := (some .int)) (by decide) rfl ?_
  intro p e s m args below meth c s₁ B hml hv
  obtain ⟨rfl, hsz, hP, hK, hN⟩ := hv
  have hx := B.exec
  have hb := B.bytes
  have hr := B.returns
  have hts0 := atoms_spec (ws := (Cond.code yX12_send cX12_send 2 (some .int) :: lw_all)) B.pre
  have hown : s.vm.findClass RX12 = some m.cls := findClass_of_methodNamed B.named
  have hlocks := B.notSynchronized
  subst hsz
  have F : pt_F p m c cX12_send 2 s _ RX12 D cA := ⟨⟨hx, hb, hml, hown, fun w h => hts0 w (List.mem_cons_of_mem _ h)⟩, hK⟩
  have hD : ∀ M, va_D (rt_fr ad s.heap.size) (rt_W cA ad M) := rt_D hI (fun k h => Or.inl ⟨k, h, rfl⟩)
  have hS : va_S (rt_fr ad s.heap.size) s.heap s.heap [] := va_S.rf
  have hl := lv_entry ([.ref (ad 0), .int p1]) (n := 2) (Nat.le_of_ble_eq_true rfl)
  rw [lg_entry_eq]
  generalize (lg_sl ([.ref (ad 0), .int p1]) ++ List.replicate (2 - (lg_sl ([.ref (ad 0), .int p1])).length) Slot.unset).toArray = ls at hl ⊢
  have hl : lv_has ls 2 [(0, .ref (ad 0)), (1, .int p1)] := hl
  have J46 : ∀ (M : pt_M) (H : Heap) (locs : List Loc) (ls : Array Slot), wjX12_send_46 p1 Q M → va_P D pt_cl (rt_W cA ad M) H → va_S (rt_fr ad s.heap.size) s.heap H locs → lv_has ls 2 [] → W p l e (headSpec (Cond.code yX12_send cX12_send 2 (some .int) :: lw_all) ({ frames := 2, cells := 0, slots := 0, locals := 44 } : Room)).room s m ([.ref (ad 0), .int p1] : List Value).toArray below meth c H locs 0 0 (MQ below (va_Qi Q (rt_B D cA ad) (rt_fr ad s.heap.size)) ([.ref (ad 0), .int p1] : List Value).toArray s 0 0 (rt_fr ad s.heap.size)) (F0 m 46 ls []) := by
    intro M H locs ls hw hP hS hl
    unfold wjX12_send_46 at hw
    refine lv_iconst (v := 0) hx hb dX12_send_46 (by decide) ?_
    refine lv_goto (tgt := 58) hx hb dX12_send_47 (by decide) ?_
    exact W.iret (v := 0) hx hb hr (fun t ht hW => ⟨⟨0, M, rfl, hw, by unfold rt_B; rw [ht]; exact hP⟩, hS.F ht⟩) hS.2.2 dX12_send_58
  have J39 : ∀ (xs1 : Int32) (M : pt_M) (H : Heap) (locs : List Loc) (ls : Array Slot), wjX12_send_39 p1 Q xs1 M → va_P D pt_cl (rt_W cA ad M) H → va_S (rt_fr ad s.heap.size) s.heap H locs → lv_has ls 2 [(0, .ref (ad 0)), (1, .int p1)] → W p l e (headSpec (Cond.code yX12_send cX12_send 2 (some .int) :: lw_all) ({ frames := 2, cells := 0, slots := 0, locals := 44 } : Room)).room s m ([.ref (ad 0), .int p1] : List Value).toArray below meth c H locs 0 0 (MQ below (va_Qi Q (rt_B D cA ad) (rt_fr ad s.heap.size)) ([.ref (ad 0), .int p1] : List Value).toArray s 0 0 (rt_fr ad s.heap.size)) (F0 m 39 ls [.int xs1, .ref (ad 0)]) := by
    intro xs1 M H locs ls hw hP hS hl
    unfold wjX12_send_39 at hw
    refine lv_iconst (v := 2) hx hb dX12_send_39 (by decide) ?_
    refine rt_calli (rt_runV (n := 2) (As := [.int xs1, .int 2]) (rest := []) F hP hN hS (rt_frs hS.1) (rt_c12 _ rt_k0) (rt_l12 rt_k0) rfl (mtX12_refuse l D cA ad hI _ xs1 2 M _ hw) kw_1175 kw_1172 kw_60 kw_1174 kw_29 ⟨by decide, by decide, by decide +kernel⟩ ⟨rfl, rfl, Nat.le_of_ble_eq_true rfl, Nat.le_of_ble_eq_true rfl⟩ rfl hl.1 rfl (Nat.le_of_ble_eq_true rfl) dX12_send_40 ⟨Nat.zero_le _, Nat.zero_le _⟩) hS (fun _ h => h) (fun r_40 M_40 H locs hw hP hS _ _ => ?_)
    refine lv_if_eq (tgt := 50) hx hb dX12_send_43 (by decide) (fun hc43 => ?_) (fun hc43 => ?_)
    · replace hw := hw.1 hc43
      refine lv_aload_n hx hb dX12_send_50 rfl (lv_at hl 0 rfl) ?_
      refine rt_get F hP (rt_c12 _ rt_k0) (rt_l12 rt_k0) inX12 rfl 2 (by decide) kw_1142 rfl rfl dX12_send_51 ?_
      refine lv_iload_n hx hb dX12_send_54 rfl (lv_at hl 1 rfl) ?_
      exact hw.elim
    · replace hw := hw.2 hc43
      exact J46 M_40 _ _ _ hw hP hS (lv_sub hl [] rfl)
  have J16 : ∀ (xs1 : Int32) (M : pt_M) (H : Heap) (locs : List Loc) (ls : Array Slot), wjX12_send_16 p1 Q xs1 M → va_P D pt_cl (rt_W cA ad M) H → va_S (rt_fr ad s.heap.size) s.heap H locs → lv_has ls 2 [(0, .ref (ad 0)), (1, .int p1)] → W p l e (headSpec (Cond.code yX12_send cX12_send 2 (some .int) :: lw_all) ({ frames := 2, cells := 0, slots := 0, locals := 44 } : Room)).room s m ([.ref (ad 0), .int p1] : List Value).toArray below meth c H locs 0 0 (MQ below (va_Qi Q (rt_B D cA ad) (rt_fr ad s.heap.size)) ([.ref (ad 0), .int p1] : List Value).toArray s 0 0 (rt_fr ad s.heap.size)) (F0 m 16 ls [.int xs1, .ref (ad 0)]) := by
    intro xs1 M H locs ls hw hP hS hl
    unfold wjX12_send_16 at hw
    refine lv_iconst (v := 1) hx hb dX12_send_16 (by decide) ?_
    refine rt_calli (rt_runV (n := 2) (As := [.int xs1, .int 1]) (rest := []) F hP hN hS (rt_frs hS.1) (rt_c12 _ rt_k0) (rt_l12 rt_k0) rfl (mtX12_start l D cA ad hI _ xs1 1 M _ hw) kw_1171 kw_1168 kw_60 kw_1170 kw_28 ⟨by decide, by decide, by decide +kernel⟩ ⟨rfl, rfl, Nat.le_of_ble_eq_true rfl, Nat.le_of_ble_eq_true rfl⟩ rfl hl.1 rfl (Nat.le_of_ble_eq_true rfl) dX12_send_17 ⟨Nat.zero_le _, Nat.zero_le _⟩) hS (fun _ h => h) (fun r_17 M_17 H locs hw hP hS _ _ => ?_)
    refine lv_if_ne (tgt := 46) hx hb dX12_send_20 (by decide) (fun hc20 => ?_) (fun hc20 => ?_)
    · replace hw := hw.1 hc20
      exact J46 M_17 _ _ _ hw hP hS (lv_sub hl [] rfl)
    · replace hw := hw.2 hc20
      refine lv_aload_n hx hb dX12_send_23 rfl (lv_at hl 0 rfl) ?_
      refine lv_iload_n hx hb dX12_send_24 rfl (lv_at hl 1 rfl) ?_
      refine lv_iconst (v := 0) hx hb dX12_send_25 (by decide) ?_
      refine lv_bipush (v := 9) hx hb dX12_send_26 (by decide) ?_
      refine rt_calli (rt_runS (n := 3) (As := [.int p1, .int 0, .int 9]) (rest := [.ref (ad 0)]) F hP hN hS (rt_frs hS.1) (mtX12_isIn l D cA ad hI _ p1 0 9 M_17 _ hw) kw_1182 kw_1180 kw_60 kw_1181 ⟨by decide, by decide, by decide +kernel⟩ ⟨rfl, rfl, Nat.le_of_ble_eq_true rfl, Nat.le_of_ble_eq_true rfl⟩ rfl hl.1 rfl (Nat.le_of_ble_eq_true rfl) dX12_send_28 ⟨Nat.zero_le _, Nat.zero_le _⟩) hS (fun _ h => h) (fun r_28 M_28 H locs hw hP hS _ _ => ?_)
      refine lv_if_ne (tgt := 38) hx hb dX12_send_31 (by decide) (fun hc31 => ?_) (fun hc31 => ?_)
      · replace hw := hw.1 hc31
        refine lv_iconst (v := 0) hx hb dX12_send_38 (by decide) ?_
        exact J39 0 M_28 _ _ _ hw hP hS (lv_sub hl [0, 1] rfl)
      · replace hw := hw.2 hc31
        refine lv_iconst (v := 1) hx hb dX12_send_34 (by decide) ?_
        refine lv_goto (tgt := 39) hx hb dX12_send_35 (by decide) ?_
        exact J39 1 M_28 _ _ _ hw hP hS (lv_sub hl [0, 1] rfl)
  unfold wpX12_send at hw
  refine lv_aload_n hx hb dX12_send_0 rfl (lv_at hl 0 rfl) ?_
  refine lv_aload_n hx hb dX12_send_1 rfl (lv_at hl 0 rfl) ?_
  refine rt_get F hP (rt_c12 _ rt_k0) (rt_l12 rt_k0) inX12 rfl 2 (by decide) kw_1142 rfl rfl dX12_send_2 ?_
  refine rt_get F hP (rt_c9 _ rt_k6) (rt_l9 rt_k6) inX9 rfl 0 (by decide) kw_1004 rfl rfl dX12_send_5 ?_
  refine lv_if_ne (tgt := 15) hx hb dX12_send_8 (by decide) (fun hc8 => ?_) (fun hc8 => ?_)
  · replace hw := hw.1 hc8
    refine lv_iconst (v := 0) hx hb dX12_send_15 (by decide) ?_
    exact J16 0 M _ _ _ hw hP hS (lv_sub hl [0, 1] rfl)
  · replace hw := hw.2 hc8
    refine lv_iconst (v := 1) hx hb dX12_send_11 (by decide) ?_
    refine lv_goto (tgt := 16) hx hb dX12_send_12 (by decide) ?_
    exact J16 1 M _ _ _ hw hP hS (lv_sub hl [0, 1] rfl)
-- ===== X12_tick
def wjX12_tick_46 (p1 : Int32) (Q : Int32 → pt_M → Prop)   (M : pt_M) : Prop :=
  Q 0 M
def wjX12_tick_39 (p1 : Int32) (Q : Int32 → pt_M → Prop)  (xs1 : Int32) (M : pt_M) : Prop :=
  wpX12_refuse xs1 2 M (fun (r_40 : Int32) (M_40 : pt_M) => (r_40 = 0 → (p1 ≤ 0 → Q 0 M_40) ∧ (¬ p1 ≤ 0 → False)) ∧ (¬ r_40 = 0 → wjX12_tick_46 p1 Q M_40))
def wjX12_tick_16 (p1 : Int32) (Q : Int32 → pt_M → Prop)  (xs1 : Int32) (M : pt_M) : Prop :=
  wpX12_start xs1 1 M (fun (r_17 : Int32) (M_17 : pt_M) => (¬ r_17 = 0 → wjX12_tick_46 p1 Q M_17) ∧ (r_17 = 0 → wpX12_isIn p1 1 50 M_17 (fun (r_28 : Int32) (M_28 : pt_M) => (¬ r_28 = 0 → wjX12_tick_39 p1 Q 0 M_28) ∧ (r_28 = 0 → wjX12_tick_39 p1 Q 1 M_28))))
def wpX12_tick (p1 : Int32) (M : pt_M) (Q : Int32 → pt_M → Prop) : Prop :=
  (¬ (M 6 0) = 0 → wjX12_tick_16 p1 Q 0 M) ∧ ((M 6 0) = 0 → wjX12_tick_16 p1 Q 1 M)
set_option maxHeartbeats 4000000 in
set_option maxRecDepth 100000 in
theorem mtX12_tick (l : Launch) (D : va_G) (cA : Nat → ClassId) (ad : Nat → Nat) (hI : rt_I ad) (sz : Nat) (p1 : Int32) (M : pt_M) (Q : Int32 → pt_M → Prop) (hw : wpX12_tick p1 M Q) : Met l yX12_tick (Cond.code yX12_tick cX12_tick 4 (some .int) :: lw_all) ({ frames := 2, cells := 0, slots := 0, locals := 44 } : Room) (va_Pc [.ref (ad 0), .int p1] (rt_P D cA ad sz M)) (va_Qi Q (rt_B D cA ad) (rt_fr ad sz)) 0 0 (rt_fr ad sz) := by
  refine Met.ofW (cc := cX12_tick) (maxL := 4) (ret := (some .int)) (by decide) rfl ?_
  intro p e s m args below meth c s₁ B hml hv
  obtain ⟨rfl, hsz, hP, hK, hN⟩ := hv
  have hx := B.exec
  have hb := B.bytes
  have hr := B.returns
  have hts0 := atoms_spec (ws := (Cond.code yX12_tick cX12_tick 4 (some .int) :: lw_all)) B.pre
  have hown : s.vm.findClass RX12 = some m.cls := findClass_of_methodNamed B.named
  have hlocks := B.notSynchronized
  subst hsz
  have F : pt_F p m c cX12_tick 4 s _ RX12 D cA := ⟨⟨hx, hb, hml, hown, fun w h => hts0 w (List.mem_cons_of_mem _ h)⟩, hK⟩
  have hD : ∀ M, va_D (rt_fr ad s.heap.size) (rt_W cA ad M) := rt_D hI (fun k h => Or.inl ⟨k, h, rfl⟩)
  have hS : va_S (rt_fr ad s.heap.size) s.heap s.heap [] := va_S.rf
  have hl := lv_entry ([.ref (ad 0), .int p1]) (n := 4) (Nat.le_of_ble_eq_true rfl)
  rw [lg_entry_eq]
  generalize (lg_sl ([.ref (ad 0), .int p1]) ++ List.replicate (4 - (lg_sl ([.ref (ad 0), .int p1])).length) Slot.unset).toArray = ls at hl ⊢
  have hl : lv_has ls 4 [(0, .ref (ad 0)), (1, .int p1)] := hl
  have J46 : ∀ (M : pt_M) (H : Heap) (locs : List Loc) (ls : Array Slot), wjX12_tick_46 p1 Q M → va_P D pt_cl (rt_W cA ad M) H → va_S (rt_fr ad s.heap.size) s.heap H locs → lv_has ls 4 [] → W p l e (headSpec (Cond.code yX12_tick cX12_tick 4 (some .int) :: lw_all) ({ frames := 2, cells := 0, slots := 0, locals := 44 } : Room)).room s m ([.ref (ad 0), .int p1] : List Value).toArray below meth c H locs 0 0 (MQ below (va_Qi Q (rt_B D cA ad) (rt_fr ad s.heap.size)) ([.ref (ad 0), .int p1] : List Value).toArray s 0 0 (rt_fr ad s.heap.size)) (F0 m 46 ls []) := by
    intro M H locs ls hw hP hS hl
    unfold wjX12_tick_46 at hw
    refine lv_iconst (v := 0) hx hb dX12_tick_46 (by decide) ?_
    exact W.iret (v := 0) hx hb hr (fun t ht hW => ⟨⟨0, M, rfl, hw, by unfold rt_B; rw [ht]; exact hP⟩, hS.F ht⟩) hS.2.2 dX12_tick_47
  have J39 : ∀ (xs1 : Int32) (M : pt_M) (H : Heap) (locs : List Loc) (ls : Array Slot), wjX12_tick_39 p1 Q xs1 M → va_P D pt_cl (rt_W cA ad M) H → va_S (rt_fr ad s.heap.size) s.heap H locs → lv_has ls 4 [(0, .ref (ad 0)), (1, .int p1)] → W p l e (headSpec (Cond.code yX12_tick cX12_tick 4 (some .int) :: lw_all) ({ frames := 2, cells := 0, slots := 0, locals := 44 } : Room)).room s m ([.ref (ad 0), .int p1] : List Value).toArray below meth c H locs 0 0 (MQ below (va_Qi Q (rt_B D cA ad) (rt_fr ad s.heap.size)) ([.ref (ad 0), .int p1] : List Value).toArray s 0 0 (rt_fr ad s.heap.size)) (F0 m 39 ls [.int xs1, .ref (ad 0)]) := by
    intro xs1 M H locs ls hw hP hS hl
    unfold wjX12_tick_39 at hw
    refine lv_iconst (v := 2) hx hb dX12_tick_39 (by decide) ?_
    refine rt_calli (rt_runV (n := 2) (As := [.int xs1, .int 2]) (rest := []) F hP hN hS (rt_frs hS.1) (rt_c12 _ rt_k0) (rt_l12 rt_k0) rfl (mtX12_refuse l D cA ad hI _ xs1 2 M _ hw) kw_1175 kw_1172 kw_60 kw_1174 kw_29 ⟨by decide, by decide, by decide +kernel⟩ ⟨rfl, rfl, Nat.le_of_ble_eq_true rfl, Nat.le_of_ble_eq_true rfl⟩ rfl hl.1 rfl (Nat.le_of_ble_eq_true rfl) dX12_tick_40 ⟨Nat.zero_le _, Nat.zero_le _⟩) hS (fun _ h => h) (fun r_40 M_40 H locs hw hP hS _ _ => ?_)
    refine lv_if_eq (tgt := 48) hx hb dX12_tick_43 (by decide) (fun hc43 => ?_) (fun hc43 => ?_)
    · replace hw := hw.1 hc43
      refine lv_iconst (v := 0) hx hb dX12_tick_48 (by decide) ?_
      refine lv_istore_n (lv' := [(2, .int 0), (0, .ref (ad 0)), (1, .int p1)]) hx hb dX12_tick_49 rfl hl (by decide) rfl (fun ls hl => ?_)
      refine lv_iconst (v := 0) hx hb dX12_tick_50 (by decide) ?_
      refine lv_istore_n (lv' := [(3, .int 0), (2, .int 0), (0, .ref (ad 0)), (1, .int p1)]) hx hb dX12_tick_51 rfl hl (by decide) rfl (fun ls hl => ?_)
      refine lv_iload_n hx hb dX12_tick_52 rfl (lv_at hl 0 rfl) ?_
      refine lv_iload_n hx hb dX12_tick_53 rfl (lv_at hl 3 rfl) ?_
      refine lv_icmp_ge (tgt := 73) hx hb dX12_tick_54 (by decide) (fun hc54 => ?_) (fun hc54 => ?_)
      · replace hw := hw.1 hc54
        refine lv_iload_n hx hb dX12_tick_73 rfl (lv_at hl 1 rfl) ?_
        exact W.iret (v := 0) hx hb hr (fun t ht hW => ⟨⟨0, M_40, rfl, hw, by unfold rt_B; rw [ht]; exact hP⟩, hS.F ht⟩) hS.2.2 dX12_tick_74
      · replace hw := hw.2 hc54
        refine lv_iload_n hx hb dX12_tick_57 rfl (lv_at hl 1 rfl) ?_
        refine lv_aload_n hx hb dX12_tick_58 rfl (lv_at hl 2 rfl) ?_
        refine rt_get F hP (rt_c12 _ rt_k0) (rt_l12 rt_k0) inX12 rfl 2 (by decide) kw_1142 rfl rfl dX12_tick_59 ?_
        exact hw.elim
    · replace hw := hw.2 hc43
      exact J46 M_40 _ _ _ hw hP hS (lv_sub hl [] rfl)
  have J16 : ∀ (xs1 : Int32) (M : pt_M) (H : Heap) (locs : List Loc) (ls : Array Slot), wjX12_tick_16 p1 Q xs1 M → va_P D pt_cl (rt_W cA ad M) H → va_S (rt_fr ad s.heap.size) s.heap H locs → lv_has ls 4 [(0, .ref (ad 0)), (1, .int p1)] → W p l e (headSpec (Cond.code yX12_tick cX12_tick 4 (some .int) :: lw_all) ({ frames := 2, cells := 0, slots := 0, locals := 44 } : Room)).room s m ([.ref (ad 0), .int p1] : List Value).toArray below meth c H locs 0 0 (MQ below (va_Qi Q (rt_B D cA ad) (rt_fr ad s.heap.size)) ([.ref (ad 0), .int p1] : List Value).toArray s 0 0 (rt_fr ad s.heap.size)) (F0 m 16 ls [.int xs1, .ref (ad 0)]) := by
    intro xs1 M H locs ls hw hP hS hl
    unfold wjX12_tick_16 at hw
    refine lv_iconst (v := 1) hx hb dX12_tick_16 (by decide) ?_
    refine rt_calli (rt_runV (n := 2) (As := [.int xs1, .int 1]) (rest := []) F hP hN hS (rt_frs hS.1) (rt_c12 _ rt_k0) (rt_l12 rt_k0) rfl (mtX12_start l D cA ad hI _ xs1 1 M _ hw) kw_1171 kw_1168 kw_60 kw_1170 kw_28 ⟨by decide, by decide, by decide +kernel⟩ ⟨rfl, rfl, Nat.le_of_ble_eq_true rfl, Nat.le_of_ble_eq_true rfl⟩ rfl hl.1 rfl (Nat.le_of_ble_eq_true rfl) dX12_tick_17 ⟨Nat.zero_le _, Nat.zero_le _⟩) hS (fun _ h => h) (fun r_17 M_17 H locs hw hP hS _ _ => ?_)
    refine lv_if_ne (tgt := 46) hx hb dX12_tick_20 (by decide) (fun hc20 => ?_) (fun hc20 => ?_)
    · replace hw := hw.1 hc20
      exact J46 M_17 _ _ _ hw hP hS (lv_sub hl [] rfl)
    · replace hw := hw.2 hc20
      refine lv_aload_n hx hb dX12_tick_23 rfl (lv_at hl 0 rfl) ?_
      refine lv_iload_n hx hb dX12_tick_24 rfl (lv_at hl 1 rfl) ?_
      refine lv_iconst (v := 1) hx hb dX12_tick_25 (by decide) ?_
      refine lv_bipush (v := 50) hx hb dX12_tick_26 (by decide) ?_
      refine rt_calli (rt_runS (n := 3) (As := [.int p1, .int 1, .int 50]) (rest := [.ref (ad 0)]) F hP hN hS (rt_frs hS.1) (mtX12_isIn l D cA ad hI _ p1 1 50 M_17 _ hw) kw_1182 kw_1180 kw_60 kw_1181 ⟨by decide, by decide, by decide +kernel⟩ ⟨rfl, rfl, Nat.le_of_ble_eq_true rfl, Nat.le_of_ble_eq_true rfl⟩ rfl hl.1 rfl (Nat.le_of_ble_eq_true rfl) dX12_tick_28 ⟨Nat.zero_le _, Nat.zero_le _⟩) hS (fun _ h => h) (fun r_28 M_28 H locs hw hP hS _ _ => ?_)
      refine lv_if_ne (tgt := 38) hx hb dX12_tick_31 (by decide) (fun hc31 => ?_) (fun hc31 => ?_)
      · replace hw := hw.1 hc31
        refine lv_iconst (v := 0) hx hb dX12_tick_38 (by decide) ?_
        exact J39 0 M_28 _ _ _ hw hP hS (lv_sub hl [0, 1] rfl)
      · replace hw := hw.2 hc31
        refine lv_iconst (v := 1) hx hb dX12_tick_34 (by decide) ?_
        refine lv_goto (tgt := 39) hx hb dX12_tick_35 (by decide) ?_
        exact J39 1 M_28 _ _ _ hw hP hS (lv_sub hl [0, 1] rfl)
  unfold wpX12_tick at hw
  refine lv_aload_n hx hb dX12_tick_0 rfl (lv_at hl 0 rfl) ?_
  refine lv_aload_n hx hb dX12_tick_1 rfl (lv_at hl 0 rfl) ?_
  refine rt_get F hP (rt_c12 _ rt_k0) (rt_l12 rt_k0) inX12 rfl 2 (by decide) kw_1142 rfl rfl dX12_tick_2 ?_
  refine rt_get F hP (rt_c9 _ rt_k6) (rt_l9 rt_k6) inX9 rfl 0 (by decide) kw_1004 rfl rfl dX12_tick_5 ?_
  refine lv_if_ne (tgt := 15) hx hb dX12_tick_8 (by decide) (fun hc8 => ?_) (fun hc8 => ?_)
  · replace hw := hw.1 hc8
    refine lv_iconst (v := 0) hx hb dX12_tick_15 (by decide) ?_
    exact J16 0 M _ _ _ hw hP hS (lv_sub hl [0, 1] rfl)
  · replace hw := hw.2 hc8
    refine lv_iconst (v := 1) hx hb dX12_tick_11 (by decide) ?_
    refine lv_goto (tgt := 16) hx hb dX12_tick_12 (by decide) ?_
    exact J16 1 M _ _ _ hw hP hS (lv_sub hl [0, 1] rfl)
-- ===== X12_states
def wpX12_states  (M : pt_M) (Q : Int32 → pt_M → Prop) : Prop :=
  wpJx4a65c_size_8abf5 2 M (fun (r_8 : Int32) (M_8 : pt_M) => wpX12_plain r_8 M_8 (fun (r_11 : Int32) (M_11 : pt_M) => Q r_11 M_11))
set_option maxHeartbeats 4000000 in
set_option maxRecDepth 100000 in
theorem mtX12_states (l : Launch) (D : va_G) (cA : Nat → ClassId) (ad : Nat → Nat) (hI : rt_I ad) (sz : Nat) (M : pt_M) (Q : Int32 → pt_M → Prop) (hw : wpX12_states M Q) : Met l yX12_states (Cond.code yX12_states cX12_states 1 (some .int) :: lw_all) ({ frames := 1, cells := 0, slots := 0, locals := 21 } : Room) (va_Pc [.ref (ad 0)] (rt_P D cA ad sz M)) (va_Qi Q (rt_B D cA ad) (rt_fr ad sz)) 0 0 (rt_fr ad sz) := by
  refine Met.ofW (cc := cX12_states) (maxL := 1) (ret := (some .int)) (by decide) rfl ?_
  intro p e s m args below meth c s₁ B hml hv
  obtain ⟨rfl, hsz, hP, hK, hN⟩ := hv
  have hx := B.exec
  have hb := B.bytes
  have hr := B.returns
  have hts0 := atoms_spec (ws := (Cond.code yX12_states cX12_states 1 (some .int) :: lw_all)) B.pre
  have hown : s.vm.findClass RX12 = some m.cls := findClass_of_methodNamed B.named
  have hlocks := B.notSynchronized
  subst hsz
  have F : pt_F p m c cX12_states 1 s _ RX12 D cA := ⟨⟨hx, hb, hml, hown, fun w h => hts0 w (List.mem_cons_of_mem _ h)⟩, hK⟩
  have hD : ∀ M, va_D (rt_fr ad s.heap.size) (rt_W cA ad M) := rt_D hI (fun k h => Or.inl ⟨k, h, rfl⟩)
  have hS : va_S (rt_fr ad s.heap.size) s.heap s.heap [] := va_S.rf
  have hl := lv_entry ([.ref (ad 0)]) (n := 1) (Nat.le_of_ble_eq_true rfl)
  rw [lg_entry_eq]
  generalize (lg_sl ([.ref (ad 0)]) ++ List.replicate (1 - (lg_sl ([.ref (ad 0)])).length) Slot.unset).toArray = ls at hl ⊢
  have hl : lv_has ls 1 [(0, .ref (ad 0))] := hl
  unfold wpX12_states at hw
  refine lv_aload_n hx hb dX12_states_0 rfl (lv_at hl 0 rfl) ?_
  refine lv_aload_n hx hb dX12_states_1 rfl (lv_at hl 0 rfl) ?_
  refine rt_get F hP (rt_c12 _ rt_k0) (rt_l12 rt_k0) inX12 rfl 1 (by decide) kw_1140 rfl rfl dX12_states_2 ?_
  refine rt_get F hP (rt_c8 _ rt_k1) (rt_l8 rt_k1) inX8 rfl 0 (by decide) kw_985 rfl rfl dX12_states_5 ?_
  refine rt_calli (rt_runV (n := 0) (As := []) (rest := [.ref (ad 0)]) F hP hN hS (rt_frs hS.1) (rt_c13 _ rt_k2) (rt_l13 rt_k2) rfl (mtJx4a65c_size_8abf5 l D cA ad hI _ 2 rt_k2 M _ hw) kw_1167 kw_1164 kw_64 kw_1165 kw_1166 ⟨by decide, by decide, by decide +kernel⟩ ⟨rfl, rfl, Nat.le_of_ble_eq_true rfl, Nat.le_of_ble_eq_true rfl⟩ rfl hl.1 rfl (Nat.le_of_ble_eq_true rfl) dX12_states_8 ⟨Nat.zero_le _, Nat.zero_le _⟩) hS (fun _ h => h) (fun r_8 M_8 H locs hw hP hS _ _ => ?_)
  refine rt_calli (rt_runV (n := 1) (As := [.int r_8]) (rest := []) F hP hN hS (rt_frs hS.1) (rt_c12 _ rt_k0) (rt_l12 rt_k0) rfl (mtX12_plain l D cA ad hI _ r_8 M_8 _ hw) kw_1469 kw_1466 kw_60 kw_1468 kw_44 ⟨by decide, by decide, by decide +kernel⟩ ⟨rfl, rfl, Nat.le_of_ble_eq_true rfl, Nat.le_of_ble_eq_true rfl⟩ rfl hl.1 rfl (Nat.le_of_ble_eq_true rfl) dX12_states_11 ⟨Nat.zero_le _, Nat.zero_le _⟩) hS (fun _ h => h) (fun r_11 M_11 H locs hw hP hS _ _ => ?_)
  exact W.iret (v := r_11) hx hb hr (fun t ht hW => ⟨⟨r_11, M_11, rfl, hw, by unfold rt_B; rw [ht]; exact hP⟩, hS.F ht⟩) hS.2.2 dX12_states_14
-- ===== X12_transitions
def wpX12_transitions  (M : pt_M) (Q : Int32 → pt_M → Prop) : Prop :=
  wpJx4a65c_size_8abf5 5 M (fun (r_8 : Int32) (M_8 : pt_M) => wpX12_plain r_8 M_8 (fun (r_11 : Int32) (M_11 : pt_M) => Q r_11 M_11))
set_option maxHeartbeats 4000000 in
set_option maxRecDepth 100000 in
theorem mtX12_transitions (l : Launch) (D : va_G) (cA : Nat → ClassId) (ad : Nat → Nat) (hI : rt_I ad) (sz : Nat) (M : pt_M) (Q : Int32 → pt_M → Prop) (hw : wpX12_transitions M Q) : Met l yX12_transitions (Cond.code yX12_transitions cX12_transitions 1 (some .int) :: lw_all) ({ frames := 1, cells := 0, slots := 0, locals := 21 } : Room) (va_Pc [.ref (ad 0)] (rt_P D cA ad sz M)) (va_Qi Q (rt_B D cA ad) (rt_fr ad sz)) 0 0 (rt_fr ad sz) := by
  refine Met.ofW (cc := cX12_transitions) (maxL := 1) (ret := (some .int)) (by decide) rfl ?_
  intro p e s m args below meth c s₁ B hml hv
  obtain ⟨rfl, hsz, hP, hK, hN⟩ := hv
  have hx := B.exec
  have hb := B.bytes
  have hr := B.returns
  have hts0 := atoms_spec (ws := (Cond.code yX12_transitions cX12_transitions 1 (some .int) :: lw_all)) B.pre
  have hown : s.vm.findClass RX12 = some m.cls := findClass_of_methodNamed B.named
  have hlocks := B.notSynchronized
  subst hsz
  have F : pt_F p m c cX12_transitions 1 s _ RX12 D cA := ⟨⟨hx, hb, hml, hown, fun w h => hts0 w (List.mem_cons_of_mem _ h)⟩, hK⟩
  have hD : ∀ M, va_D (rt_fr ad s.heap.size) (rt_W cA ad M) := rt_D hI (fun k h => Or.inl ⟨k, h, rfl⟩)
  have hS : va_S (rt_fr ad s.heap.size) s.heap s.heap [] := va_S.rf
  have hl := lv_entry ([.ref (ad 0)]) (n := 1) (Nat.le_of_ble_eq_true rfl)
  rw [lg_entry_eq]
  generalize (lg_sl ([.ref (ad 0)]) ++ List.replicate (1 - (lg_sl ([.ref (ad 0)])).length) Slot.unset).toArray = ls at hl ⊢
  have hl : lv_has ls 1 [(0, .ref (ad 0))] := hl
  unfold wpX12_transitions at hw
  refine lv_aload_n hx hb dX12_transitions_0 rfl (lv_at hl 0 rfl) ?_
  refine lv_aload_n hx hb dX12_transitions_1 rfl (lv_at hl 0 rfl) ?_
  refine rt_get F hP (rt_c12 _ rt_k0) (rt_l12 rt_k0) inX12 rfl 1 (by decide) kw_1140 rfl rfl dX12_transitions_2 ?_
  refine rt_get F hP (rt_c8 _ rt_k1) (rt_l8 rt_k1) inX8 rfl 1 (by decide) kw_988 rfl rfl dX12_transitions_5 ?_
  refine rt_calli (rt_runV (n := 0) (As := []) (rest := [.ref (ad 0)]) F hP hN hS (rt_frs hS.1) (rt_c13 _ rt_k5) (rt_l13 rt_k5) rfl (mtJx4a65c_size_8abf5 l D cA ad hI _ 5 rt_k5 M _ hw) kw_1167 kw_1164 kw_64 kw_1165 kw_1166 ⟨by decide, by decide, by decide +kernel⟩ ⟨rfl, rfl, Nat.le_of_ble_eq_true rfl, Nat.le_of_ble_eq_true rfl⟩ rfl hl.1 rfl (Nat.le_of_ble_eq_true rfl) dX12_transitions_8 ⟨Nat.zero_le _, Nat.zero_le _⟩) hS (fun _ h => h) (fun r_8 M_8 H locs hw hP hS _ _ => ?_)
  refine rt_calli (rt_runV (n := 1) (As := [.int r_8]) (rest := []) F hP hN hS (rt_frs hS.1) (rt_c12 _ rt_k0) (rt_l12 rt_k0) rfl (mtX12_plain l D cA ad hI _ r_8 M_8 _ hw) kw_1469 kw_1466 kw_60 kw_1468 kw_44 ⟨by decide, by decide, by decide +kernel⟩ ⟨rfl, rfl, Nat.le_of_ble_eq_true rfl, Nat.le_of_ble_eq_true rfl⟩ rfl hl.1 rfl (Nat.le_of_ble_eq_true rfl) dX12_transitions_11 ⟨Nat.zero_le _, Nat.zero_le _⟩) hS (fun _ h => h) (fun r_11 M_11 H locs hw hP hS _ _ => ?_)
  exact W.iret (v := r_11) hx hb hr (fun t ht hW => ⟨⟨r_11, M_11, rfl, hw, by unfold rt_B; rw [ht]; exact hP⟩, hS.F ht⟩) hS.2.2 dX12_transitions_14
