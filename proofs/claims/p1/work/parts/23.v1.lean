-- ===== X7_addTransition
def wjVX7_addTransition_98 (E : String → Prop) (p1 : Int32) (p2 : Int32) (p3 : Int32) (p4 : Int32) (Q : Int32 → pt_M → Prop)   (M : pt_M) : Prop :=
  wpX1_putTransition p1 p2 p3 p4 M (fun (r_107 : Int32) (M_107 : pt_M) => Q r_107 M_107)
def wjVX7_addTransition_90 (E : String → Prop) (p1 : Int32) (p2 : Int32) (p3 : Int32) (p4 : Int32) (Q : Int32 → pt_M → Prop)   (M : pt_M) : Prop :=
  E "java/lang/IllegalArgumentException"
def wjVX7_addTransition_67 (E : String → Prop) (p1 : Int32) (p2 : Int32) (p3 : Int32) (p4 : Int32) (Q : Int32 → pt_M → Prop)   (M : pt_M) : Prop :=
  E "java/lang/IllegalArgumentException"
def wjVX7_addTransition_44 (E : String → Prop) (p1 : Int32) (p2 : Int32) (p3 : Int32) (p4 : Int32) (Q : Int32 → pt_M → Prop)   (M : pt_M) : Prop :=
  vp_in p1 20 ∧ (wpX5_isHolder (pt_s p1) M (fun (r_53 : Int32) (M_53 : pt_M) => (r_53 = 0 → wjVX7_addTransition_67 E p1 p2 p3 p4 Q M_53) ∧ (¬ r_53 = 0 → wpX7_isTrigger p2 p3 M_53 (fun (r_61 : Int32) (M_61 : pt_M) => (¬ r_61 = 0 → (p4 = 0 → wjVX7_addTransition_90 E p1 p2 p3 p4 Q M_61) ∧ (¬ p4 = 0 → (¬ p1 = 0 → wjVX7_addTransition_98 E p1 p2 p3 p4 Q M_61) ∧ (p1 = 0 → (p4 = (-1) → wjVX7_addTransition_98 E p1 p2 p3 p4 Q M_61) ∧ (¬ p4 = (-1) → wjVX7_addTransition_90 E p1 p2 p3 p4 Q M_61)))) ∧ (r_61 = 0 → wjVX7_addTransition_67 E p1 p2 p3 p4 Q M_61)))))
def wjVX7_addTransition_19 (E : String → Prop) (p1 : Int32) (p2 : Int32) (p3 : Int32) (p4 : Int32) (Q : Int32 → pt_M → Prop)   (M : pt_M) : Prop :=
  E "java/lang/IllegalStateException"
def wpVX7_addTransition (E : String → Prop) (p1 : Int32) (p2 : Int32) (p3 : Int32) (p4 : Int32) (M : pt_M) (Q : Int32 → pt_M → Prop) : Prop :=
  (¬ (M 0 4) = 0 → wjVX7_addTransition_19 E p1 p2 p3 p4 Q M) ∧ ((M 0 4) = 0 → ((M 1 4) < 30 → wpVX7_checkState E p1 M (fun (M_29 : pt_M) => (p4 = (-1) → wjVX7_addTransition_44 E p1 p2 p3 p4 Q M_29) ∧ (¬ p4 = (-1) → wpVX7_checkState E p4 M_29 (fun (M_41 : pt_M) => wjVX7_addTransition_44 E p1 p2 p3 p4 Q M_41)))) ∧ (¬ (M 1 4) < 30 → wjVX7_addTransition_19 E p1 p2 p3 p4 Q M))
set_option maxHeartbeats 4000000 in
set_option maxRecDepth 100000 in
theorem mtVX7_addTransition (l : Launch) (hst : l.stackTraces = false) (D : va_G) (cA : Nat → ClassId) (ad : Nat → Nat) (hI : pt_I ad) (sz : Nat) (E : String → Prop) (p1 : Int32) (p2 : Int32) (p3 : Int32) (p4 : Int32) (M : pt_M) (Q : Int32 → pt_M → Prop) (hw : wpVX7_addTransition E p1 p2 p3 p4 M Q) : vx_Met l yX7_addTransition (Cond.code yX7_addTransition cX7_addTransition 5 (some .int) :: lw_all) ({ frames := 7, cells := 3, slots := 18, locals := 102 } : Room) (va_Pc [.ref (ad 0), .int p1, .int p2, .int p3, .int p4] (px_P D cA ad sz M)) (va_Qi Q (pt_B D cA ad) (pt_fr ad sz)) (px_E E ad sz) 3 18 (pt_fr ad sz) := by
  refine vx_ofW (cc := cX7_addTransition) (maxL := 5) (ret := (some .int)) (by decide) rfl ?_
  intro p e s m args below meth c s₁ B hml hout hv
  obtain ⟨rfl, ⟨hsz, hP, hK⟩, hZ⟩ := hv
  have hx := B.exec
  have hb := B.bytes
  have hr := B.returns
  have hts0 := atoms_spec (ws := (Cond.code yX7_addTransition cX7_addTransition 5 (some .int) :: lw_all)) B.pre
  have hown : s.vm.findClass RX7 = some m.cls := findClass_of_methodNamed B.named
  have hlocks := B.notSynchronized
  subst hsz
  have F : pt_F p m c cX7_addTransition 5 s _ RX7 D cA := ⟨⟨hx, hb, hml, hown, fun w h => hts0 w (List.mem_cons_of_mem _ h)⟩, hK⟩
  have hD : ∀ M, va_D (pt_fr ad s.heap.size) (pt_W cA ad M) := pt_D hI (fun k h => Or.inl ⟨k, h, rfl⟩)
  have hS : va_S (pt_fr ad s.heap.size) s.heap s.heap [] := va_S.rf
  have hl := lv_entry ([.ref (ad 0), .int p1, .int p2, .int p3, .int p4]) (n := 5) (Nat.le_of_ble_eq_true rfl)
  rw [lg_entry_eq]
  generalize (lg_sl ([.ref (ad 0), .int p1, .int p2, .int p3, .int p4]) ++ List.replicate (5 - (lg_sl ([.ref (ad 0), .int p1, .int p2, .int p3, .int p4])).length) Slot.unset).toArray = ls at hl ⊢
  have hl : lv_has ls 5 [(0, .ref (ad 0)), (1, .int p1), (2, .int p2), (3, .int p3), (4, .int p4)] := hl
  have J98 : ∀ (M : pt_M) (H : Heap) (locs : List Loc) (ls : Array Slot), wjVX7_addTransition_98 E p1 p2 p3 p4 Q M → va_P D pt_cl (pt_W cA ad M) H → va_S (pt_fr ad s.heap.size) s.heap H locs → lv_has ls 5 [(0, .ref (ad 0)), (1, .int p1), (2, .int p2), (3, .int p3), (4, .int p4)] → W p l e (headSpec (Cond.code yX7_addTransition cX7_addTransition 5 (some .int) :: lw_all) ({ frames := 7, cells := 3, slots := 18, locals := 102 } : Room)).room s m ([.ref (ad 0), .int p1, .int p2, .int p3, .int p4] : List Value).toArray below meth c H locs 2 12 (vx_MQ below (va_Qi Q (pt_B D cA ad) (pt_fr ad s.heap.size)) (px_E E ad s.heap.size) ([.ref (ad 0), .int p1, .int p2, .int p3, .int p4] : List Value).toArray s 3 18 (pt_fr ad s.heap.size)) (F0 m 98 ls []) := by
    intro M H locs ls hw hP hS hl
    unfold wjVX7_addTransition_98 at hw
    refine lv_aload_n hx hb dX7_addTransition_98 rfl (lv_at hl 0 rfl) ?_
    refine pt_get F hP (pt_c7 _ pt_k0) (pt_l7 pt_k0) inX7 rfl 0 (by decide) kw_370 rfl rfl dX7_addTransition_99 ?_
    refine lv_iload_n hx hb dX7_addTransition_102 rfl (lv_at hl 1 rfl) ?_
    refine lv_iload_n hx hb dX7_addTransition_103 rfl (lv_at hl 2 rfl) ?_
    refine lv_iload_n hx hb dX7_addTransition_104 rfl (lv_at hl 3 rfl) ?_
    refine lv_iload hx hb dX7_addTransition_105 (lv_at hl 4 rfl) ?_
    refine pt_calli (pt_runV (n := 4) (As := [.int p1, .int p2, .int p3, .int p4]) (rest := []) F hP (pt_c1 _ pt_k1) (pt_l1 pt_k1) rfl (mtX1_putTransition l D cA ad hI _ p1 p2 p3 p4 M _ hw) kw_671 kw_668 kw_53 kw_669 kw_670 ⟨by decide, by decide, by decide +kernel⟩ ⟨rfl, rfl, Nat.le_of_ble_eq_true rfl, Nat.le_of_ble_eq_true rfl⟩ rfl hl.1 rfl (Nat.le_of_ble_eq_true rfl) dX7_addTransition_107 ⟨Nat.le_of_ble_eq_true rfl, Nat.le_of_ble_eq_true rfl⟩) hS (fun _ h => h) (fun r_107 M_107 H locs hw hP hS _ _ => ?_)
    refine W.widen (k := 3) (n := 18) (Nat.le_of_ble_eq_true rfl) (Nat.le_of_ble_eq_true rfl) ?_
    refine vx_ret ?_
    exact W.iret (v := r_107) hx hb hr (fun t ht hW => ⟨⟨r_107, M_107, rfl, hw, by unfold pt_B; rw [ht]; exact hP⟩, hS.F ht⟩) hS.2.2 dX7_addTransition_110
  have J90 : ∀ (M : pt_M) (H : Heap) (locs : List Loc) (ls : Array Slot), wjVX7_addTransition_90 E p1 p2 p3 p4 Q M → va_P D pt_cl (pt_W cA ad M) H → va_S (pt_fr ad s.heap.size) s.heap H locs → lv_has ls 5 [] → W p l e (headSpec (Cond.code yX7_addTransition cX7_addTransition 5 (some .int) :: lw_all) ({ frames := 7, cells := 3, slots := 18, locals := 102 } : Room)).room s m ([.ref (ad 0), .int p1, .int p2, .int p3, .int p4] : List Value).toArray below meth c H locs 2 12 (vx_MQ below (va_Qi Q (pt_B D cA ad) (pt_fr ad s.heap.size)) (px_E E ad s.heap.size) ([.ref (ad 0), .int p1, .int p2, .int p3, .int p4] : List Value).toArray s 3 18 (pt_fr ad s.heap.size)) (F0 m 90 ls []) := by
    intro M H locs ls hw hP hS hl
    unfold wjVX7_addTransition_90 at hw
    exact px_thr F hst (by decide) kw_545 kw_76 vatRX7_68 vgdRX7_68 hZ hS hl.1 dX7_addTransition_90 dX7_addTransition_93 dX7_addTransition_94 dX7_addTransition_97 hout (Nat.le_of_ble_eq_true rfl) (Nat.le_of_ble_eq_true rfl) (Nat.le_of_ble_eq_true rfl) (Nat.le_of_ble_eq_true rfl) hlocks hw (Nat.le_of_ble_eq_true rfl) (Nat.le_of_ble_eq_true rfl)
  have J67 : ∀ (M : pt_M) (H : Heap) (locs : List Loc) (ls : Array Slot), wjVX7_addTransition_67 E p1 p2 p3 p4 Q M → va_P D pt_cl (pt_W cA ad M) H → va_S (pt_fr ad s.heap.size) s.heap H locs → lv_has ls 5 [] → W p l e (headSpec (Cond.code yX7_addTransition cX7_addTransition 5 (some .int) :: lw_all) ({ frames := 7, cells := 3, slots := 18, locals := 102 } : Room)).room s m ([.ref (ad 0), .int p1, .int p2, .int p3, .int p4] : List Value).toArray below meth c H locs 2 12 (vx_MQ below (va_Qi Q (pt_B D cA ad) (pt_fr ad s.heap.size)) (px_E E ad s.heap.size) ([.ref (ad 0), .int p1, .int p2, .int p3, .int p4] : List Value).toArray s 3 18 (pt_fr ad s.heap.size)) (F0 m 67 ls []) := by
    intro M H locs ls hw hP hS hl
    unfold wjVX7_addTransition_67 at hw
    exact px_thr F hst (by decide) kw_545 kw_76 vatRX7_68 vgdRX7_68 hZ hS hl.1 dX7_addTransition_67 dX7_addTransition_70 dX7_addTransition_71 dX7_addTransition_74 hout (Nat.le_of_ble_eq_true rfl) (Nat.le_of_ble_eq_true rfl) (Nat.le_of_ble_eq_true rfl) (Nat.le_of_ble_eq_true rfl) hlocks hw (Nat.le_of_ble_eq_true rfl) (Nat.le_of_ble_eq_true rfl)
  have J44 : ∀ (M : pt_M) (H : Heap) (locs : List Loc) (ls : Array Slot), wjVX7_addTransition_44 E p1 p2 p3 p4 Q M → va_P D pt_cl (pt_W cA ad M) H → va_S (pt_fr ad s.heap.size) s.heap H locs → lv_has ls 5 [(0, .ref (ad 0)), (1, .int p1), (2, .int p2), (3, .int p3), (4, .int p4)] → W p l e (headSpec (Cond.code yX7_addTransition cX7_addTransition 5 (some .int) :: lw_all) ({ frames := 7, cells := 3, slots := 18, locals := 102 } : Room)).room s m ([.ref (ad 0), .int p1, .int p2, .int p3, .int p4] : List Value).toArray below meth c H locs 2 12 (vx_MQ below (va_Qi Q (pt_B D cA ad) (pt_fr ad s.heap.size)) (px_E E ad s.heap.size) ([.ref (ad 0), .int p1, .int p2, .int p3, .int p4] : List Value).toArray s 3 18 (pt_fr ad s.heap.size)) (F0 m 44 ls []) := by
    intro M H locs ls hw hP hS hl
    unfold wjVX7_addTransition_44 at hw
    refine lv_aload_n hx hb dX7_addTransition_44 rfl (lv_at hl 0 rfl) ?_
    refine pt_get F hP (pt_c7 _ pt_k0) (pt_l7 pt_k0) inX7 rfl 0 (by decide) kw_370 rfl rfl dX7_addTransition_45 ?_
    refine pt_get F hP (pt_c1 _ pt_k1) (pt_l1 pt_k1) inX1 rfl 0 (by decide) kw_223 rfl rfl dX7_addTransition_48 ?_
    refine lv_iload_n hx hb dX7_addTransition_51 rfl (lv_at hl 1 rfl) ?_
    have hv52 := hw.1
    replace hw := hw.2
    refine pt_alds F hP hv52 dX7_addTransition_52 ?_
    refine pt_calli (pt_runV (n := 0) (As := []) (rest := []) F hP (pt_c5 _ (pt_ks hv52)) (pt_l5 (pt_ks hv52)) rfl (mtX5_isHolder l D cA ad hI _ (pt_s p1) (pt_ks hv52) M _ hw) kw_613 kw_610 kw_54 kw_611 kw_612 ⟨by decide, by decide, by decide +kernel⟩ ⟨rfl, rfl, Nat.le_of_ble_eq_true rfl, Nat.le_of_ble_eq_true rfl⟩ rfl hl.1 rfl (Nat.le_of_ble_eq_true rfl) dX7_addTransition_53 ⟨Nat.le_of_ble_eq_true rfl, Nat.le_of_ble_eq_true rfl⟩) hS (fun _ h => h) (fun r_53 M_53 H locs hw hP hS _ _ => ?_)
    refine lv_if_eq (tgt := 67) hx hb dX7_addTransition_56 (by decide) (fun hc56 => ?_) (fun hc56 => ?_)
    · replace hw := hw.1 hc56
      exact J67 M_53 _ _ _ hw hP hS (lv_sub hl [] rfl)
    · replace hw := hw.2 hc56
      refine lv_iload_n hx hb dX7_addTransition_59 rfl (lv_at hl 2 rfl) ?_
      refine lv_iload_n hx hb dX7_addTransition_60 rfl (lv_at hl 3 rfl) ?_
      refine pt_calli (pt_runS (n := 2) (As := [.int p2, .int p3]) (rest := []) F hP (mtX7_isTrigger l D cA ad hI _ p2 p3 M_53 _ hw) kw_667 kw_665 kw_52 kw_666 ⟨by decide, by decide, by decide +kernel⟩ ⟨rfl, rfl, Nat.le_of_ble_eq_true rfl, Nat.le_of_ble_eq_true rfl⟩ rfl hl.1 rfl (Nat.le_of_ble_eq_true rfl) dX7_addTransition_61 ⟨Nat.le_of_ble_eq_true rfl, Nat.le_of_ble_eq_true rfl⟩) hS (fun _ h => h) (fun r_61 M_61 H locs hw hP hS _ _ => ?_)
      refine lv_if_ne (tgt := 75) hx hb dX7_addTransition_64 (by decide) (fun hc64 => ?_) (fun hc64 => ?_)
      · replace hw := hw.1 hc64
        refine lv_iload hx hb dX7_addTransition_75 (lv_at hl 4 rfl) ?_
        refine lv_if_eq (tgt := 90) hx hb dX7_addTransition_77 (by decide) (fun hc77 => ?_) (fun hc77 => ?_)
        · replace hw := hw.1 hc77
          exact J90 M_61 _ _ _ hw hP hS (lv_sub hl [] rfl)
        · replace hw := hw.2 hc77
          refine lv_iload_n hx hb dX7_addTransition_80 rfl (lv_at hl 1 rfl) ?_
          refine lv_if_ne (tgt := 98) hx hb dX7_addTransition_81 (by decide) (fun hc81 => ?_) (fun hc81 => ?_)
          · replace hw := hw.1 hc81
            exact J98 M_61 _ _ _ hw hP hS (lv_sub hl [0, 1, 2, 3, 4] rfl)
          · replace hw := hw.2 hc81
            refine lv_iload hx hb dX7_addTransition_84 (lv_at hl 4 rfl) ?_
            refine lv_iconst (v := (-1)) hx hb dX7_addTransition_86 (by decide) ?_
            refine lv_icmp_eq (tgt := 98) hx hb dX7_addTransition_87 (by decide) (fun hc87 => ?_) (fun hc87 => ?_)
            · replace hw := hw.1 hc87
              exact J98 M_61 _ _ _ hw hP hS (lv_sub hl [0, 1, 2, 3, 4] rfl)
            · replace hw := hw.2 hc87
              exact J90 M_61 _ _ _ hw hP hS (lv_sub hl [] rfl)
      · replace hw := hw.2 hc64
        exact J67 M_61 _ _ _ hw hP hS (lv_sub hl [] rfl)
  have J19 : ∀ (M : pt_M) (H : Heap) (locs : List Loc) (ls : Array Slot), wjVX7_addTransition_19 E p1 p2 p3 p4 Q M → va_P D pt_cl (pt_W cA ad M) H → va_S (pt_fr ad s.heap.size) s.heap H locs → lv_has ls 5 [] → W p l e (headSpec (Cond.code yX7_addTransition cX7_addTransition 5 (some .int) :: lw_all) ({ frames := 7, cells := 3, slots := 18, locals := 102 } : Room)).room s m ([.ref (ad 0), .int p1, .int p2, .int p3, .int p4] : List Value).toArray below meth c H locs 0 0 (vx_MQ below (va_Qi Q (pt_B D cA ad) (pt_fr ad s.heap.size)) (px_E E ad s.heap.size) ([.ref (ad 0), .int p1, .int p2, .int p3, .int p4] : List Value).toArray s 3 18 (pt_fr ad s.heap.size)) (F0 m 19 ls []) := by
    intro M H locs ls hw hP hS hl
    unfold wjVX7_addTransition_19 at hw
    exact px_thr F hst (by decide) kw_595 kw_74 vatRX7_47 vgdRX7_47 hZ hS hl.1 dX7_addTransition_19 dX7_addTransition_22 dX7_addTransition_23 dX7_addTransition_26 hout (Nat.le_of_ble_eq_true rfl) (Nat.le_of_ble_eq_true rfl) (Nat.le_of_ble_eq_true rfl) (Nat.le_of_ble_eq_true rfl) hlocks hw (Nat.le_of_ble_eq_true rfl) (Nat.le_of_ble_eq_true rfl)
  unfold wpVX7_addTransition at hw
  refine lv_aload_n hx hb dX7_addTransition_0 rfl (lv_at hl 0 rfl) ?_
  refine pt_get F hP (pt_c7 _ pt_k0) (pt_l7 pt_k0) inX7 rfl 4 (by decide) kw_374 rfl rfl dX7_addTransition_1 ?_
  refine lv_if_ne (tgt := 19) hx hb dX7_addTransition_4 (by decide) (fun hc4 => ?_) (fun hc4 => ?_)
  · replace hw := hw.1 hc4
    exact J19 M _ _ _ hw hP hS (lv_sub hl [] rfl)
  · replace hw := hw.2 hc4
    refine lv_aload_n hx hb dX7_addTransition_7 rfl (lv_at hl 0 rfl) ?_
    refine pt_get F hP (pt_c7 _ pt_k0) (pt_l7 pt_k0) inX7 rfl 0 (by decide) kw_370 rfl rfl dX7_addTransition_8 ?_
    refine pt_get F hP (pt_c1 _ pt_k1) (pt_l1 pt_k1) inX1 rfl 4 (by decide) kw_234 rfl rfl dX7_addTransition_11 ?_
    refine lv_bipush (v := 30) hx hb dX7_addTransition_14 (by decide) ?_
    refine lv_icmp_lt (tgt := 27) hx hb dX7_addTransition_16 (by decide) (fun hc16 => ?_) (fun hc16 => ?_)
    · replace hw := hw.1 hc16
      refine lv_aload_n hx hb dX7_addTransition_27 rfl (lv_at hl 0 rfl) ?_
      refine lv_iload_n hx hb dX7_addTransition_28 rfl (lv_at hl 1 rfl) ?_
      refine px_callv (E := E) (px_runV (n := 1) (As := [.int p1]) (rest := []) F hP hZ hS (fun q h => px_frs hS.1 q h) (pt_c7 _ pt_k0) (pt_l7 pt_k0) rfl (mtVX7_checkState l hst D cA ad hI _ E p1 M _ hw) kw_481 kw_478 kw_52 kw_480 kw_1 ⟨by decide, by decide, by decide +kernel⟩ ⟨rfl, rfl, (Nat.le_of_ble_eq_true rfl), (Nat.le_of_ble_eq_true rfl)⟩ rfl hl.1 rfl (Nat.le_of_ble_eq_true rfl) dX7_addTransition_29 ⟨(Nat.le_of_ble_eq_true rfl), (Nat.le_of_ble_eq_true rfl)⟩) hS (fun _ h => h) (fun X ce q9 H locs hE hS _ _ hce hcv hcl => px_out hout hlocks hE hS hce hcv hcl (Nat.le_of_ble_eq_true rfl) (Nat.le_of_ble_eq_true rfl)) (fun M_29 H locs hw hP hS _ _ => ?_)
      refine W.widen (k := 1) (n := 6) (Nat.le_of_ble_eq_true rfl) (Nat.le_of_ble_eq_true rfl) ?_
      refine lv_iload hx hb dX7_addTransition_32 (lv_at hl 4 rfl) ?_
      refine lv_iconst (v := (-1)) hx hb dX7_addTransition_34 (by decide) ?_
      refine lv_icmp_eq (tgt := 44) hx hb dX7_addTransition_35 (by decide) (fun hc35 => ?_) (fun hc35 => ?_)
      · replace hw := hw.1 hc35
        refine W.widen (k := 2) (n := 12) (Nat.le_of_ble_eq_true rfl) (Nat.le_of_ble_eq_true rfl) ?_
        exact J44 M_29 _ _ _ hw hP hS (lv_sub hl [0, 1, 2, 3, 4] rfl)
      · replace hw := hw.2 hc35
        refine lv_aload_n hx hb dX7_addTransition_38 rfl (lv_at hl 0 rfl) ?_
        refine lv_iload hx hb dX7_addTransition_39 (lv_at hl 4 rfl) ?_
        refine px_callv (E := E) (px_runV (n := 1) (As := [.int p4]) (rest := []) F hP hZ hS (fun q h => px_frs hS.1 q h) (pt_c7 _ pt_k0) (pt_l7 pt_k0) rfl (mtVX7_checkState l hst D cA ad hI _ E p4 M_29 _ hw) kw_481 kw_478 kw_52 kw_480 kw_1 ⟨by decide, by decide, by decide +kernel⟩ ⟨rfl, rfl, (Nat.le_of_ble_eq_true rfl), (Nat.le_of_ble_eq_true rfl)⟩ rfl hl.1 rfl (Nat.le_of_ble_eq_true rfl) dX7_addTransition_41 ⟨(Nat.le_of_ble_eq_true rfl), (Nat.le_of_ble_eq_true rfl)⟩) hS (fun _ h => h) (fun X ce q9 H locs hE hS _ _ hce hcv hcl => px_out hout hlocks hE hS hce hcv hcl (Nat.le_of_ble_eq_true rfl) (Nat.le_of_ble_eq_true rfl)) (fun M_41 H locs hw hP hS _ _ => ?_)
        refine W.widen (k := 2) (n := 12) (Nat.le_of_ble_eq_true rfl) (Nat.le_of_ble_eq_true rfl) ?_
        exact J44 M_41 _ _ _ hw hP hS (lv_sub hl [0, 1, 2, 3, 4] rfl)
    · replace hw := hw.2 hc16
      exact J19 M _ _ _ hw hP hS (lv_sub hl [] rfl)
-- ===== X7_setGuard
def wpVX7_setGuard (E : String → Prop) (p1 : Int32) (p2 : Int32) (p3 : Int32) (p4 : Int32) (M : pt_M) (Q : Int32 → pt_M → Prop) : Prop :=
  wpVX7_checkResting E M (fun (M_1 : pt_M) => wpVX7_checkTransition E p1 M_1 (fun (M_6 : pt_M) => wpX7_isGuard p2 p3 p4 M_6 (fun (r_13 : Int32) (M_13 : pt_M) => (¬ r_13 = 0 → vp_in p1 30 ∧ (∀ x6_43 : Int32, x6_43 = (M_13 (pt_t p1) 6) → ∀ M_48 : pt_M, M_48 = pt_st M_13 (pt_t p1) 6 p2 → ∀ M_54 : pt_M, M_54 = pt_st M_48 (pt_t p1) 7 p3 → ∀ M_61 : pt_M, M_61 = pt_st M_54 (pt_t p1) 8 p4 → Q x6_43 M_61)) ∧ (r_13 = 0 → E "java/lang/IllegalArgumentException"))))
set_option maxHeartbeats 4000000 in
set_option maxRecDepth 100000 in
theorem mtVX7_setGuard (l : Launch) (hst : l.stackTraces = false) (D : va_G) (cA : Nat → ClassId) (ad : Nat → Nat) (hI : pt_I ad) (sz : Nat) (E : String → Prop) (p1 : Int32) (p2 : Int32) (p3 : Int32) (p4 : Int32) (M : pt_M) (Q : Int32 → pt_M → Prop) (hw : wpVX7_setGuard E p1 p2 p3 p4 M Q) : vx_Met l yX7_setGuard (Cond.code yX7_setGuard cX7_setGuard 7 (some .int) :: lw_all) ({ frames := 7, cells := 3, slots := 18, locals := 102 } : Room) (va_Pc [.ref (ad 0), .int p1, .int p2, .int p3, .int p4] (px_P D cA ad sz M)) (va_Qi Q (pt_B D cA ad) (pt_fr ad sz)) (px_E E ad sz) 3 18 (pt_fr ad sz) := by
  refine vx_ofW (cc := cX7_setGuard) (maxL := 7) (ret := (some .int)) (by decide) rfl ?_
  intro p e s m args below meth c s₁ B hml hout hv
  obtain ⟨rfl, ⟨hsz, hP, hK⟩, hZ⟩ := hv
  have hx := B.exec
  have hb := B.bytes
  have hr := B.returns
  have hts0 := atoms_spec (ws := (Cond.code yX7_setGuard cX7_setGuard 7 (some .int) :: lw_all)) B.pre
  have hown : s.vm.findClass RX7 = some m.cls := findClass_of_methodNamed B.named
  have hlocks := B.notSynchronized
  subst hsz
  have F : pt_F p m c cX7_setGuard 7 s _ RX7 D cA := ⟨⟨hx, hb, hml, hown, fun w h => hts0 w (List.mem_cons_of_mem _ h)⟩, hK⟩
  have hD : ∀ M, va_D (pt_fr ad s.heap.size) (pt_W cA ad M) := pt_D hI (fun k h => Or.inl ⟨k, h, rfl⟩)
  have hS : va_S (pt_fr ad s.heap.size) s.heap s.heap [] := va_S.rf
  have hl := lv_entry ([.ref (ad 0), .int p1, .int p2, .int p3, .int p4]) (n := 7) (Nat.le_of_ble_eq_true rfl)
  rw [lg_entry_eq]
  generalize (lg_sl ([.ref (ad 0), .int p1, .int p2, .int p3, .int p4]) ++ List.replicate (7 - (lg_sl ([.ref (ad 0), .int p1, .int p2, .int p3, .int p4])).length) Slot.unset).toArray = ls at hl ⊢
  have hl : lv_has ls 7 [(0, .ref (ad 0)), (1, .int p1), (2, .int p2), (3, .int p3), (4, .int p4)] := hl
  unfold wpVX7_setGuard at hw
  refine lv_aload_n hx hb dX7_setGuard_0 rfl (lv_at hl 0 rfl) ?_
  refine px_callv (E := E) (px_runV (n := 0) (As := []) (rest := []) F hP hZ hS (fun q h => px_frs hS.1 q h) (pt_c7 _ pt_k0) (pt_l7 pt_k0) rfl (mtVX7_checkResting l hst D cA ad hI _ E M _ hw) kw_639 kw_636 kw_52 kw_638 kw_4 ⟨by decide, by decide, by decide +kernel⟩ ⟨rfl, rfl, (Nat.le_of_ble_eq_true rfl), (Nat.le_of_ble_eq_true rfl)⟩ rfl hl.1 rfl (Nat.le_of_ble_eq_true rfl) dX7_setGuard_1 ⟨(Nat.le_of_ble_eq_true rfl), (Nat.le_of_ble_eq_true rfl)⟩) hS (fun _ h => h) (fun X ce q9 H locs hE hS _ _ hce hcv hcl => px_out hout hlocks hE hS hce hcv hcl (Nat.le_of_ble_eq_true rfl) (Nat.le_of_ble_eq_true rfl)) (fun M_1 H locs hw hP hS _ _ => ?_)
  refine W.widen (k := 1) (n := 6) (Nat.le_of_ble_eq_true rfl) (Nat.le_of_ble_eq_true rfl) ?_
  refine lv_aload_n hx hb dX7_setGuard_4 rfl (lv_at hl 0 rfl) ?_
  refine lv_iload_n hx hb dX7_setGuard_5 rfl (lv_at hl 1 rfl) ?_
  refine px_callv (E := E) (px_runV (n := 1) (As := [.int p1]) (rest := []) F hP hZ hS (fun q h => px_frs hS.1 q h) (pt_c7 _ pt_k0) (pt_l7 pt_k0) rfl (mtVX7_checkTransition l hst D cA ad hI _ E p1 M_1 _ hw) kw_583 kw_580 kw_52 kw_582 kw_3 ⟨by decide, by decide, by decide +kernel⟩ ⟨rfl, rfl, (Nat.le_of_ble_eq_true rfl), (Nat.le_of_ble_eq_true rfl)⟩ rfl hl.1 rfl (Nat.le_of_ble_eq_true rfl) dX7_setGuard_6 ⟨(Nat.le_of_ble_eq_true rfl), (Nat.le_of_ble_eq_true rfl)⟩) hS (fun _ h => h) (fun X ce q9 H locs hE hS _ _ hce hcv hcl => px_out hout hlocks hE hS hce hcv hcl (Nat.le_of_ble_eq_true rfl) (Nat.le_of_ble_eq_true rfl)) (fun M_6 H locs hw hP hS _ _ => ?_)
  refine W.widen (k := 2) (n := 12) (Nat.le_of_ble_eq_true rfl) (Nat.le_of_ble_eq_true rfl) ?_
  refine lv_iload_n hx hb dX7_setGuard_9 rfl (lv_at hl 2 rfl) ?_
  refine lv_iload_n hx hb dX7_setGuard_10 rfl (lv_at hl 3 rfl) ?_
  refine lv_iload hx hb dX7_setGuard_11 (lv_at hl 4 rfl) ?_
  refine pt_calli (pt_runS (n := 3) (As := [.int p2, .int p3, .int p4]) (rest := []) F hP (mtX7_isGuard l D cA ad hI _ p2 p3 p4 M_6 _ hw) kw_688 kw_686 kw_52 kw_687 ⟨by decide, by decide, by decide +kernel⟩ ⟨rfl, rfl, Nat.le_of_ble_eq_true rfl, Nat.le_of_ble_eq_true rfl⟩ rfl hl.1 rfl (Nat.le_of_ble_eq_true rfl) dX7_setGuard_13 ⟨Nat.le_of_ble_eq_true rfl, Nat.le_of_ble_eq_true rfl⟩) hS (fun _ h => h) (fun r_13 M_13 H locs hw hP hS _ _ => ?_)
  refine lv_if_ne (tgt := 27) hx hb dX7_setGuard_16 (by decide) (fun hc16 => ?_) (fun hc16 => ?_)
  · replace hw := hw.1 hc16
    refine lv_aload_n hx hb dX7_setGuard_27 rfl (lv_at hl 0 rfl) ?_
    refine pt_get F hP (pt_c7 _ pt_k0) (pt_l7 pt_k0) inX7 rfl 0 (by decide) kw_370 rfl rfl dX7_setGuard_28 ?_
    refine pt_get F hP (pt_c1 _ pt_k1) (pt_l1 pt_k1) inX1 rfl 1 (by decide) kw_226 rfl rfl dX7_setGuard_31 ?_
    refine lv_iload_n hx hb dX7_setGuard_34 rfl (lv_at hl 1 rfl) ?_
    have hv35 := hw.1
    replace hw := hw.2
    refine pt_aldt F hP hv35 dX7_setGuard_35 ?_
    refine lv_astore (lv' := [(5, .ref (ad (pt_t p1))), (0, .ref (ad 0)), (1, .int p1), (2, .int p2), (3, .int p3), (4, .int p4)]) hx hb dX7_setGuard_36 hl (by decide) rfl (fun ls hl => ?_)
    refine lv_aload hx hb dX7_setGuard_38 (lv_at hl 0 rfl) ?_
    refine pt_get F hP (pt_c6 _ (pt_kt hv35)) (pt_l6 (pt_kt hv35)) inX6 rfl 6 (by decide) kw_198 rfl rfl dX7_setGuard_40 ?_
    refine lv_topi (fun x6_43 ex6_43 => ?_)
    replace hw := hw x6_43 ex6_43
    refine lv_istore (lv' := [(6, .int x6_43), (5, .ref (ad (pt_t p1))), (0, .ref (ad 0)), (1, .int p1), (2, .int p2), (3, .int p3), (4, .int p4)]) hx hb dX7_setGuard_43 hl (by decide) rfl (fun ls hl => ?_)
    refine lv_aload hx hb dX7_setGuard_45 (lv_at hl 1 rfl) ?_
    refine lv_iload_n hx hb dX7_setGuard_47 rfl (lv_at hl 4 rfl) ?_
    refine pt_put F hP hD hS (pt_c6 _ (pt_kt hv35)) (pt_l6 (pt_kt hv35)) inX6 tyX6 tyX6_ok nmX6 rfl 6 (by decide) kw_198 rfl rfl rfl rfl (Nat.le_of_ble_eq_true rfl) (pt_c6 _ (pt_kt hv35)) dX7_setGuard_48 (fun M_48 H locs eM_48 hP hS => ?_)
    replace hw := hw M_48 eM_48
    refine lv_aload hx hb dX7_setGuard_51 (lv_at hl 1 rfl) ?_
    refine lv_iload_n hx hb dX7_setGuard_53 rfl (lv_at hl 5 rfl) ?_
    refine pt_put F hP hD hS (pt_c6 _ (pt_kt hv35)) (pt_l6 (pt_kt hv35)) inX6 tyX6 tyX6_ok nmX6 rfl 7 (by decide) kw_200 rfl rfl rfl rfl (Nat.le_of_ble_eq_true rfl) (pt_c6 _ (pt_kt hv35)) dX7_setGuard_54 (fun M_54 H locs eM_54 hP hS => ?_)
    replace hw := hw M_54 eM_54
    refine lv_aload hx hb dX7_setGuard_57 (lv_at hl 1 rfl) ?_
    refine lv_iload hx hb dX7_setGuard_59 (lv_at hl 6 rfl) ?_
    refine pt_put F hP hD hS (pt_c6 _ (pt_kt hv35)) (pt_l6 (pt_kt hv35)) inX6 tyX6 tyX6_ok nmX6 rfl 8 (by decide) kw_202 rfl rfl rfl rfl (Nat.le_of_ble_eq_true rfl) (pt_c6 _ (pt_kt hv35)) dX7_setGuard_61 (fun M_61 H locs eM_61 hP hS => ?_)
    replace hw := hw M_61 eM_61
    refine lv_iload hx hb dX7_setGuard_64 (lv_at hl 0 rfl) ?_
    refine W.widen (k := 3) (n := 18) (Nat.le_of_ble_eq_true rfl) (Nat.le_of_ble_eq_true rfl) ?_
    refine vx_ret ?_
    exact W.iret (v := x6_43) hx hb hr (fun t ht hW => ⟨⟨x6_43, M_61, rfl, hw, by unfold pt_B; rw [ht]; exact hP⟩, hS.F ht⟩) hS.2.2 dX7_setGuard_66
  · replace hw := hw.2 hc16
    exact px_thr F hst (by decide) kw_545 kw_76 vatRX7_68 vgdRX7_68 hZ hS hl.1 dX7_setGuard_19 dX7_setGuard_22 dX7_setGuard_23 dX7_setGuard_26 hout (Nat.le_of_ble_eq_true rfl) (Nat.le_of_ble_eq_true rfl) (Nat.le_of_ble_eq_true rfl) (Nat.le_of_ble_eq_true rfl) hlocks hw (Nat.le_of_ble_eq_true rfl) (Nat.le_of_ble_eq_true rfl)
-- ===== X7_setAction
def wpVX7_setAction (E : String → Prop) (p1 : Int32) (p2 : Int32) (p3 : Int32) (p4 : Int32) (M : pt_M) (Q : Int32 → pt_M → Prop) : Prop :=
  wpVX7_checkResting E M (fun (M_1 : pt_M) => wpVX7_checkTransition E p1 M_1 (fun (M_6 : pt_M) => wpX7_isAction p2 p3 p4 M_6 (fun (r_13 : Int32) (M_13 : pt_M) => (¬ r_13 = 0 → vp_in p1 30 ∧ (wpX0_become ((pt_t p1) + 1) p2 p3 p4 M_13 (fun (r_43 : Int32) (M_43 : pt_M) => Q r_43 M_43))) ∧ (r_13 = 0 → E "java/lang/IllegalArgumentException"))))
set_option maxHeartbeats 4000000 in
set_option maxRecDepth 100000 in
theorem mtVX7_setAction (l : Launch) (hst : l.stackTraces = false) (D : va_G) (cA : Nat → ClassId) (ad : Nat → Nat) (hI : pt_I ad) (sz : Nat) (E : String → Prop) (p1 : Int32) (p2 : Int32) (p3 : Int32) (p4 : Int32) (M : pt_M) (Q : Int32 → pt_M → Prop) (hw : wpVX7_setAction E p1 p2 p3 p4 M Q) : vx_Met l yX7_setAction (Cond.code yX7_setAction cX7_setAction 5 (some .int) :: lw_all) ({ frames := 7, cells := 3, slots := 18, locals := 102 } : Room) (va_Pc [.ref (ad 0), .int p1, .int p2, .int p3, .int p4] (px_P D cA ad sz M)) (va_Qi Q (pt_B D cA ad) (pt_fr ad sz)) (px_E E ad sz) 3 18 (pt_fr ad sz) := by
  refine vx_ofW (cc := cX7_setAction) (maxL := 5) (ret := (some .int)) (by decide) rfl ?_
  intro p e s m args below meth c s₁ B hml hout hv
  obtain ⟨rfl, ⟨hsz, hP, hK⟩, hZ⟩ := hv
  have hx := B.exec
  have hb := B.bytes
  have hr := B.returns
  have hts0 := atoms_spec (ws := (Cond.code yX7_setAction cX7_setAction 5 (some .int) :: lw_all)) B.pre
  have hown : s.vm.findClass RX7 = some m.cls := findClass_of_methodNamed B.named
  have hlocks := B.notSynchronized
  subst hsz
  have F : pt_F p m c cX7_setAction 5 s _ RX7 D cA := ⟨⟨hx, hb, hml, hown, fun w h => hts0 w (List.mem_cons_of_mem _ h)⟩, hK⟩
  have hD : ∀ M, va_D (pt_fr ad s.heap.size) (pt_W cA ad M) := pt_D hI (fun k h => Or.inl ⟨k, h, rfl⟩)
  have hS : va_S (pt_fr ad s.heap.size) s.heap s.heap [] := va_S.rf
  have hl := lv_entry ([.ref (ad 0), .int p1, .int p2, .int p3, .int p4]) (n := 5) (Nat.le_of_ble_eq_true rfl)
  rw [lg_entry_eq]
  generalize (lg_sl ([.ref (ad 0), .int p1, .int p2, .int p3, .int p4]) ++ List.replicate (5 - (lg_sl ([.ref (ad 0), .int p1, .int p2, .int p3, .int p4])).length) Slot.unset).toArray = ls at hl ⊢
  have hl : lv_has ls 5 [(0, .ref (ad 0)), (1, .int p1), (2, .int p2), (3, .int p3), (4, .int p4)] := hl
  unfold wpVX7_setAction at hw
  refine lv_aload_n hx hb dX7_setAction_0 rfl (lv_at hl 0 rfl) ?_
  refine px_callv (E := E) (px_runV (n := 0) (As := []) (rest := []) F hP hZ hS (fun q h => px_frs hS.1 q h) (pt_c7 _ pt_k0) (pt_l7 pt_k0) rfl (mtVX7_checkResting l hst D cA ad hI _ E M _ hw) kw_639 kw_636 kw_52 kw_638 kw_4 ⟨by decide, by decide, by decide +kernel⟩ ⟨rfl, rfl, (Nat.le_of_ble_eq_true rfl), (Nat.le_of_ble_eq_true rfl)⟩ rfl hl.1 rfl (Nat.le_of_ble_eq_true rfl) dX7_setAction_1 ⟨(Nat.le_of_ble_eq_true rfl), (Nat.le_of_ble_eq_true rfl)⟩) hS (fun _ h => h) (fun X ce q9 H locs hE hS _ _ hce hcv hcl => px_out hout hlocks hE hS hce hcv hcl (Nat.le_of_ble_eq_true rfl) (Nat.le_of_ble_eq_true rfl)) (fun M_1 H locs hw hP hS _ _ => ?_)
  refine W.widen (k := 1) (n := 6) (Nat.le_of_ble_eq_true rfl) (Nat.le_of_ble_eq_true rfl) ?_
  refine lv_aload_n hx hb dX7_setAction_4 rfl (lv_at hl 0 rfl) ?_
  refine lv_iload_n hx hb dX7_setAction_5 rfl (lv_at hl 1 rfl) ?_
  refine px_callv (E := E) (px_runV (n := 1) (As := [.int p1]) (rest := []) F hP hZ hS (fun q h => px_frs hS.1 q h) (pt_c7 _ pt_k0) (pt_l7 pt_k0) rfl (mtVX7_checkTransition l hst D cA ad hI _ E p1 M_1 _ hw) kw_583 kw_580 kw_52 kw_582 kw_3 ⟨by decide, by decide, by decide +kernel⟩ ⟨rfl, rfl, (Nat.le_of_ble_eq_true rfl), (Nat.le_of_ble_eq_true rfl)⟩ rfl hl.1 rfl (Nat.le_of_ble_eq_true rfl) dX7_setAction_6 ⟨(Nat.le_of_ble_eq_true rfl), (Nat.le_of_ble_eq_true rfl)⟩) hS (fun _ h => h) (fun X ce q9 H locs hE hS _ _ hce hcv hcl => px_out hout hlocks hE hS hce hcv hcl (Nat.le_of_ble_eq_true rfl) (Nat.le_of_ble_eq_true rfl)) (fun M_6 H locs hw hP hS _ _ => ?_)
  refine W.widen (k := 2) (n := 12) (Nat.le_of_ble_eq_true rfl) (Nat.le_of_ble_eq_true rfl) ?_
  refine lv_iload_n hx hb dX7_setAction_9 rfl (lv_at hl 2 rfl) ?_
  refine lv_iload_n hx hb dX7_setAction_10 rfl (lv_at hl 3 rfl) ?_
  refine lv_iload hx hb dX7_setAction_11 (lv_at hl 4 rfl) ?_
  refine pt_calli (pt_runS (n := 3) (As := [.int p2, .int p3, .int p4]) (rest := []) F hP (mtX7_isAction l D cA ad hI _ p2 p3 p4 M_6 _ hw) kw_650 kw_648 kw_52 kw_649 ⟨by decide, by decide, by decide +kernel⟩ ⟨rfl, rfl, Nat.le_of_ble_eq_true rfl, Nat.le_of_ble_eq_true rfl⟩ rfl hl.1 rfl (Nat.le_of_ble_eq_true rfl) dX7_setAction_13 ⟨Nat.le_of_ble_eq_true rfl, Nat.le_of_ble_eq_true rfl⟩) hS (fun _ h => h) (fun r_13 M_13 H locs hw hP hS _ _ => ?_)
  refine lv_if_ne (tgt := 27) hx hb dX7_setAction_16 (by decide) (fun hc16 => ?_) (fun hc16 => ?_)
  · replace hw := hw.1 hc16
    refine lv_aload_n hx hb dX7_setAction_27 rfl (lv_at hl 0 rfl) ?_
    refine pt_get F hP (pt_c7 _ pt_k0) (pt_l7 pt_k0) inX7 rfl 0 (by decide) kw_370 rfl rfl dX7_setAction_28 ?_
    refine pt_get F hP (pt_c1 _ pt_k1) (pt_l1 pt_k1) inX1 rfl 1 (by decide) kw_226 rfl rfl dX7_setAction_31 ?_
    refine lv_iload_n hx hb dX7_setAction_34 rfl (lv_at hl 1 rfl) ?_
    have hv35 := hw.1
    replace hw := hw.2
    refine pt_aldt F hP hv35 dX7_setAction_35 ?_
    refine pt_get F hP (pt_c6 _ (pt_kt hv35)) (pt_l6 (pt_kt hv35)) inX6 rfl 0 (by decide) kw_183 rfl rfl dX7_setAction_36 ?_
    refine lv_iload_n hx hb dX7_setAction_39 rfl (lv_at hl 2 rfl) ?_
    refine lv_iload_n hx hb dX7_setAction_40 rfl (lv_at hl 3 rfl) ?_
    refine lv_iload hx hb dX7_setAction_41 (lv_at hl 4 rfl) ?_
    refine pt_calli (pt_runV (n := 3) (As := [.int p2, .int p3, .int p4]) (rest := []) F hP (pt_c0 _ (pt_6a (pt_kt hv35))) (pt_l0 (pt_6a (pt_kt hv35))) rfl (mtX0_become l D cA ad hI _ ((pt_t p1) + 1) (pt_6a (pt_kt hv35)) p2 p3 p4 M_13 _ hw) kw_657 kw_654 kw_55 kw_655 kw_656 ⟨by decide, by decide, by decide +kernel⟩ ⟨rfl, rfl, Nat.le_of_ble_eq_true rfl, Nat.le_of_ble_eq_true rfl⟩ rfl hl.1 rfl (Nat.le_of_ble_eq_true rfl) dX7_setAction_43 ⟨Nat.le_of_ble_eq_true rfl, Nat.le_of_ble_eq_true rfl⟩) hS (fun _ h => h) (fun r_43 M_43 H locs hw hP hS _ _ => ?_)
    refine W.widen (k := 3) (n := 18) (Nat.le_of_ble_eq_true rfl) (Nat.le_of_ble_eq_true rfl) ?_
    refine vx_ret ?_
    exact W.iret (v := r_43) hx hb hr (fun t ht hW => ⟨⟨r_43, M_43, rfl, hw, by unfold pt_B; rw [ht]; exact hP⟩, hS.F ht⟩) hS.2.2 dX7_setAction_46
  · replace hw := hw.2 hc16
    exact px_thr F hst (by decide) kw_545 kw_76 vatRX7_68 vgdRX7_68 hZ hS hl.1 dX7_setAction_19 dX7_setAction_22 dX7_setAction_23 dX7_setAction_26 hout (Nat.le_of_ble_eq_true rfl) (Nat.le_of_ble_eq_true rfl) (Nat.le_of_ble_eq_true rfl) (Nat.le_of_ble_eq_true rfl) hlocks hw (Nat.le_of_ble_eq_true rfl) (Nat.le_of_ble_eq_true rfl)
-- ===== X7_start
def wpVX7_start (E : String → Prop) (M : pt_M) (Q : Int32 → pt_M → Prop) : Prop :=
  wpVX7_checkResting E M (fun (M_1 : pt_M) => ∀ M_6 : pt_M, M_6 = pt_st M_1 0 4 1 → wpX3_reset 125 M_6 (fun (M_13 : pt_M) => wpX7_setOf 0 M_13 (fun (r_25 : Int32) (M_25 : pt_M) => wpX1_filled r_25 M_25 (fun (r_28 : Int32) (M_28 : pt_M) => wpX3_enter 125 r_28 M_28 (fun (M_31 : pt_M) => wpX3_proceed 125 11 M_31 (fun (r_40 : Int32) (M_40 : pt_M) => Q r_40 M_40))))))
set_option maxHeartbeats 4000000 in
set_option maxRecDepth 100000 in
theorem mtVX7_start (l : Launch) (hst : l.stackTraces = false) (D : va_G) (cA : Nat → ClassId) (ad : Nat → Nat) (hI : pt_I ad) (sz : Nat) (E : String → Prop) (M : pt_M) (Q : Int32 → pt_M → Prop) (hw : wpVX7_start E M Q) : vx_Met l yX7_start (Cond.code yX7_start cX7_start 1 (some .int) :: lw_all) ({ frames := 7, cells := 1, slots := 6, locals := 141 } : Room) (va_Pc [.ref (ad 0)] (px_P D cA ad sz M)) (va_Qi Q (pt_B D cA ad) (pt_fr ad sz)) (px_E E ad sz) 1 6 (pt_fr ad sz) := by
  refine vx_ofW (cc := cX7_start) (maxL := 1) (ret := (some .int)) (by decide) rfl ?_
  intro p e s m args below meth c s₁ B hml hout hv
  obtain ⟨rfl, ⟨hsz, hP, hK⟩, hZ⟩ := hv
  have hx := B.exec
  have hb := B.bytes
  have hr := B.returns
  have hts0 := atoms_spec (ws := (Cond.code yX7_start cX7_start 1 (some .int) :: lw_all)) B.pre
  have hown : s.vm.findClass RX7 = some m.cls := findClass_of_methodNamed B.named
  have hlocks := B.notSynchronized
  subst hsz
  have F : pt_F p m c cX7_start 1 s _ RX7 D cA := ⟨⟨hx, hb, hml, hown, fun w h => hts0 w (List.mem_cons_of_mem _ h)⟩, hK⟩
  have hD : ∀ M, va_D (pt_fr ad s.heap.size) (pt_W cA ad M) := pt_D hI (fun k h => Or.inl ⟨k, h, rfl⟩)
  have hS : va_S (pt_fr ad s.heap.size) s.heap s.heap [] := va_S.rf
  have hl := lv_entry ([.ref (ad 0)]) (n := 1) (Nat.le_of_ble_eq_true rfl)
  rw [lg_entry_eq]
  generalize (lg_sl ([.ref (ad 0)]) ++ List.replicate (1 - (lg_sl ([.ref (ad 0)])).length) Slot.unset).toArray = ls at hl ⊢
  have hl : lv_has ls 1 [(0, .ref (ad 0))] := hl
  unfold wpVX7_start at hw
  refine lv_aload_n hx hb dX7_start_0 rfl (lv_at hl 0 rfl) ?_
  refine px_callv (E := E) (px_runV (n := 0) (As := []) (rest := []) F hP hZ hS (fun q h => px_frs hS.1 q h) (pt_c7 _ pt_k0) (pt_l7 pt_k0) rfl (mtVX7_checkResting l hst D cA ad hI _ E M _ hw) kw_639 kw_636 kw_52 kw_638 kw_4 ⟨by decide, by decide, by decide +kernel⟩ ⟨rfl, rfl, (Nat.le_of_ble_eq_true rfl), (Nat.le_of_ble_eq_true rfl)⟩ rfl hl.1 rfl (Nat.le_of_ble_eq_true rfl) dX7_start_1 ⟨(Nat.le_of_ble_eq_true rfl), (Nat.le_of_ble_eq_true rfl)⟩) hS (fun _ h => h) (fun X ce q9 H locs hE hS _ _ hce hcv hcl => px_out hout hlocks hE hS hce hcv hcl (Nat.le_of_ble_eq_true rfl) (Nat.le_of_ble_eq_true rfl)) (fun M_1 H locs hw hP hS _ _ => ?_)
  refine W.widen (k := 1) (n := 6) (Nat.le_of_ble_eq_true rfl) (Nat.le_of_ble_eq_true rfl) ?_
  refine lv_aload_n hx hb dX7_start_4 rfl (lv_at hl 0 rfl) ?_
  refine lv_iconst (v := 1) hx hb dX7_start_5 (by decide) ?_
  refine pt_put F hP hD hS (pt_c7 _ pt_k0) (pt_l7 pt_k0) inX7 tyX7 tyX7_ok nmX7 rfl 4 (by decide) kw_374 rfl rfl rfl rfl (Nat.le_of_ble_eq_true rfl) (pt_c7 _ pt_k0) dX7_start_6 (fun M_6 H locs eM_6 hP hS => ?_)
  replace hw := hw M_6 eM_6
  refine lv_aload_n hx hb dX7_start_9 rfl (lv_at hl 0 rfl) ?_
  refine pt_get F hP (pt_c7 _ pt_k0) (pt_l7 pt_k0) inX7 rfl 1 (by decide) kw_371 rfl rfl dX7_start_10 ?_
  refine pt_callv (pt_runV (n := 0) (As := []) (rest := []) F hP (pt_c3 _ pt_k125) (pt_l3 pt_k125) rfl (mtX3_reset l D cA ad hI _ 125 pt_k125 M_6 _ hw) kw_706 kw_703 kw_57 kw_704 kw_705 ⟨by decide, by decide, by decide +kernel⟩ ⟨rfl, rfl, Nat.le_of_ble_eq_true rfl, Nat.le_of_ble_eq_true rfl⟩ rfl hl.1 rfl (Nat.le_of_ble_eq_true rfl) dX7_start_13 ⟨Nat.le_of_ble_eq_true rfl, Nat.le_of_ble_eq_true rfl⟩) hS (fun _ h => h) (fun M_13 H locs hw hP hS _ _ => ?_)
  refine lv_aload_n hx hb dX7_start_16 rfl (lv_at hl 0 rfl) ?_
  refine pt_get F hP (pt_c7 _ pt_k0) (pt_l7 pt_k0) inX7 rfl 1 (by decide) kw_371 rfl rfl dX7_start_17 ?_
  refine lv_aload_n hx hb dX7_start_20 rfl (lv_at hl 0 rfl) ?_
  refine pt_get F hP (pt_c7 _ pt_k0) (pt_l7 pt_k0) inX7 rfl 0 (by decide) kw_370 rfl rfl dX7_start_21 ?_
  refine lv_iconst (v := 0) hx hb dX7_start_24 (by decide) ?_
  refine pt_calli (pt_runS (n := 1) (As := [.int 0]) (rest := [.ref (ad 1), .ref (ad 125)]) F hP (mtX7_setOf l D cA ad hI _ 0 M_13 _ hw) kw_103 kw_715 kw_52 kw_102 ⟨by decide, by decide, by decide +kernel⟩ ⟨rfl, rfl, Nat.le_of_ble_eq_true rfl, Nat.le_of_ble_eq_true rfl⟩ rfl hl.1 rfl (Nat.le_of_ble_eq_true rfl) dX7_start_25 ⟨Nat.le_of_ble_eq_true rfl, Nat.le_of_ble_eq_true rfl⟩) hS (fun _ h => h) (fun r_25 M_25 H locs hw hP hS _ _ => ?_)
  refine pt_calli (pt_runV (n := 1) (As := [.int r_25]) (rest := [.ref (ad 125)]) F hP (pt_c1 _ pt_k1) (pt_l1 pt_k1) rfl (mtX1_filled l D cA ad hI _ r_25 M_25 _ hw) kw_719 kw_716 kw_53 kw_717 kw_718 ⟨by decide, by decide, by decide +kernel⟩ ⟨rfl, rfl, Nat.le_of_ble_eq_true rfl, Nat.le_of_ble_eq_true rfl⟩ rfl hl.1 rfl (Nat.le_of_ble_eq_true rfl) dX7_start_28 ⟨Nat.le_of_ble_eq_true rfl, Nat.le_of_ble_eq_true rfl⟩) hS (fun _ h => h) (fun r_28 M_28 H locs hw hP hS _ _ => ?_)
  refine pt_callv (pt_runV (n := 1) (As := [.int r_28]) (rest := []) F hP (pt_c3 _ pt_k125) (pt_l3 pt_k125) rfl (mtX3_enter l D cA ad hI _ 125 pt_k125 r_28 M_28 _ hw) kw_723 kw_720 kw_57 kw_721 kw_722 ⟨by decide, by decide, by decide +kernel⟩ ⟨rfl, rfl, Nat.le_of_ble_eq_true rfl, Nat.le_of_ble_eq_true rfl⟩ rfl hl.1 rfl (Nat.le_of_ble_eq_true rfl) dX7_start_31 ⟨Nat.le_of_ble_eq_true rfl, Nat.le_of_ble_eq_true rfl⟩) hS (fun _ h => h) (fun M_31 H locs hw hP hS _ _ => ?_)
  refine lv_aload_n hx hb dX7_start_34 rfl (lv_at hl 0 rfl) ?_
  refine pt_get F hP (pt_c7 _ pt_k0) (pt_l7 pt_k0) inX7 rfl 1 (by decide) kw_371 rfl rfl dX7_start_35 ?_
  refine lv_bipush (v := 11) hx hb dX7_start_38 (by decide) ?_
  refine pt_calli (pt_runV (n := 1) (As := [.int 11]) (rest := []) F hP (pt_c3 _ pt_k125) (pt_l3 pt_k125) rfl (mtX3_proceed l D cA ad hI _ 125 pt_k125 11 M_31 _ hw) kw_747 kw_744 kw_57 kw_745 kw_746 ⟨by decide, by decide, by decide +kernel⟩ ⟨rfl, rfl, Nat.le_of_ble_eq_true rfl, Nat.le_of_ble_eq_true rfl⟩ rfl hl.1 rfl (Nat.le_of_ble_eq_true rfl) dX7_start_40 ⟨Nat.le_of_ble_eq_true rfl, Nat.le_of_ble_eq_true rfl⟩) hS (fun _ h => h) (fun r_40 M_40 H locs hw hP hS _ _ => ?_)
  refine vx_ret ?_
  exact W.iret (v := r_40) hx hb hr (fun t ht hW => ⟨⟨r_40, M_40, rfl, hw, by unfold pt_B; rw [ht]; exact hP⟩, hS.F ht⟩) hS.2.2 dX7_start_43
-- ===== X7_stop
def wpVX7_stop (E : String → Prop) (M : pt_M) (Q : Int32 → pt_M → Prop) : Prop :=
  wpVX7_checkRunning E M (fun (M_1 : pt_M) => ∀ M_6 : pt_M, M_6 = pt_st M_1 0 4 0 → wpJ6_bitCount_0f7a4 (M_6 (125 + 1) 3) M_6 (fun (r_19 : Int32) (M_19 : pt_M) => wpX4_deactivate (125 + 1) M_19 (fun (M_30 : pt_M) => Q r_19 M_30)))
set_option maxHeartbeats 4000000 in
set_option maxRecDepth 100000 in
theorem mtVX7_stop (l : Launch) (hst : l.stackTraces = false) (D : va_G) (cA : Nat → ClassId) (ad : Nat → Nat) (hI : pt_I ad) (sz : Nat) (E : String → Prop) (M : pt_M) (Q : Int32 → pt_M → Prop) (hw : wpVX7_stop E M Q) : vx_Met l yX7_stop (Cond.code yX7_stop cX7_stop 2 (some .int) :: lw_all) ({ frames := 7, cells := 1, slots := 6, locals := 101 } : Room) (va_Pc [.ref (ad 0)] (px_P D cA ad sz M)) (va_Qi Q (pt_B D cA ad) (pt_fr ad sz)) (px_E E ad sz) 1 6 (pt_fr ad sz) := by
  refine vx_ofW (cc := cX7_stop) (maxL := 2) (ret := (some .int)) (by decide) rfl ?_
  intro p e s m args below meth c s₁ B hml hout hv
  obtain ⟨rfl, ⟨hsz, hP, hK⟩, hZ⟩ := hv
  have hx := B.exec
  have hb := B.bytes
  have hr := B.returns
  have hts0 := atoms_spec (ws := (Cond.code yX7_stop cX7_stop 2 (some .int) :: lw_all)) B.pre
  have hown : s.vm.findClass RX7 = some m.cls := findClass_of_methodNamed B.named
  have hlocks := B.notSynchronized
  subst hsz
  have F : pt_F p m c cX7_stop 2 s _ RX7 D cA := ⟨⟨hx, hb, hml, hown, fun w h => hts0 w (List.mem_cons_of_mem _ h)⟩, hK⟩
  have hD : ∀ M, va_D (pt_fr ad s.heap.size) (pt_W cA ad M) := pt_D hI (fun k h => Or.inl ⟨k, h, rfl⟩)
  have hS : va_S (pt_fr ad s.heap.size) s.heap s.heap [] := va_S.rf
  have hl := lv_entry ([.ref (ad 0)]) (n := 2) (Nat.le_of_ble_eq_true rfl)
  rw [lg_entry_eq]
  generalize (lg_sl ([.ref (ad 0)]) ++ List.replicate (2 - (lg_sl ([.ref (ad 0)])).length) Slot.unset).toArray = ls at hl ⊢
  have hl : lv_has ls 2 [(0, .ref (ad 0))] := hl
  unfold wpVX7_stop at hw
  refine lv_aload_n hx hb dX7_stop_0 rfl (lv_at hl 0 rfl) ?_
  refine px_callv (E := E) (px_runV (n := 0) (As := []) (rest := []) F hP hZ hS (fun q h => px_frs hS.1 q h) (pt_c7 _ pt_k0) (pt_l7 pt_k0) rfl (mtVX7_checkRunning l hst D cA ad hI _ E M _ hw) kw_831 kw_828 kw_52 kw_830 kw_21 ⟨by decide, by decide, by decide +kernel⟩ ⟨rfl, rfl, (Nat.le_of_ble_eq_true rfl), (Nat.le_of_ble_eq_true rfl)⟩ rfl hl.1 rfl (Nat.le_of_ble_eq_true rfl) dX7_stop_1 ⟨(Nat.le_of_ble_eq_true rfl), (Nat.le_of_ble_eq_true rfl)⟩) hS (fun _ h => h) (fun X ce q9 H locs hE hS _ _ hce hcv hcl => px_out hout hlocks hE hS hce hcv hcl (Nat.le_of_ble_eq_true rfl) (Nat.le_of_ble_eq_true rfl)) (fun M_1 H locs hw hP hS _ _ => ?_)
  refine W.widen (k := 1) (n := 6) (Nat.le_of_ble_eq_true rfl) (Nat.le_of_ble_eq_true rfl) ?_
  refine lv_aload_n hx hb dX7_stop_4 rfl (lv_at hl 0 rfl) ?_
  refine lv_iconst (v := 0) hx hb dX7_stop_5 (by decide) ?_
  refine pt_put F hP hD hS (pt_c7 _ pt_k0) (pt_l7 pt_k0) inX7 tyX7 tyX7_ok nmX7 rfl 4 (by decide) kw_374 rfl rfl rfl rfl (Nat.le_of_ble_eq_true rfl) (pt_c7 _ pt_k0) dX7_stop_6 (fun M_6 H locs eM_6 hP hS => ?_)
  replace hw := hw M_6 eM_6
  refine lv_aload_n hx hb dX7_stop_9 rfl (lv_at hl 0 rfl) ?_
  refine pt_get F hP (pt_c7 _ pt_k0) (pt_l7 pt_k0) inX7 rfl 1 (by decide) kw_371 rfl rfl dX7_stop_10 ?_
  refine pt_get F hP (pt_c3 _ pt_k125) (pt_l3 pt_k125) inX3 rfl 1 (by decide) kw_292 rfl rfl dX7_stop_13 ?_
  refine pt_get F hP (pt_c4 _ (pt_3s pt_k125)) (pt_l4 (pt_3s pt_k125)) inX4 rfl 3 (by decide) kw_279 rfl rfl dX7_stop_16 ?_
  refine pt_calli (pt_runS (n := 1) (As := [.int (M_6 (125 + 1) 3)]) (rest := []) F hP (mtJ6_bitCount_0f7a4 l D cA ad hI _ (M_6 (125 + 1) 3) M_6 _ hw) kw_443 kw_441 kw_80 kw_442 ⟨by decide, by decide, by decide +kernel⟩ ⟨rfl, rfl, Nat.le_of_ble_eq_true rfl, Nat.le_of_ble_eq_true rfl⟩ rfl hl.1 rfl (Nat.le_of_ble_eq_true rfl) dX7_stop_19 ⟨Nat.le_of_ble_eq_true rfl, Nat.le_of_ble_eq_true rfl⟩) hS (fun _ h => h) (fun r_19 M_19 H locs hw hP hS _ _ => ?_)
  refine lv_istore_n (lv' := [(1, .int r_19), (0, .ref (ad 0))]) hx hb dX7_stop_22 rfl hl (by decide) rfl (fun ls hl => ?_)
  refine lv_aload_n hx hb dX7_stop_23 rfl (lv_at hl 1 rfl) ?_
  refine pt_get F hP (pt_c7 _ pt_k0) (pt_l7 pt_k0) inX7 rfl 1 (by decide) kw_371 rfl rfl dX7_stop_24 ?_
  refine pt_get F hP (pt_c3 _ pt_k125) (pt_l3 pt_k125) inX3 rfl 1 (by decide) kw_292 rfl rfl dX7_stop_27 ?_
  refine pt_callv (pt_runV (n := 0) (As := []) (rest := []) F hP (pt_c4 _ (pt_3s pt_k125)) (pt_l4 (pt_3s pt_k125)) rfl (mtX4_deactivate l D cA ad hI _ (125 + 1) (pt_3s pt_k125) M_19 _ hw) kw_714 kw_832 kw_58 kw_712 kw_713 ⟨by decide, by decide, by decide +kernel⟩ ⟨rfl, rfl, Nat.le_of_ble_eq_true rfl, Nat.le_of_ble_eq_true rfl⟩ rfl hl.1 rfl (Nat.le_of_ble_eq_true rfl) dX7_stop_30 ⟨Nat.le_of_ble_eq_true rfl, Nat.le_of_ble_eq_true rfl⟩) hS (fun _ h => h) (fun M_30 H locs hw hP hS _ _ => ?_)
  refine lv_iload_n hx hb dX7_stop_33 rfl (lv_at hl 0 rfl) ?_
  refine vx_ret ?_
  exact W.iret (v := r_19) hx hb hr (fun t ht hW => ⟨⟨r_19, M_30, rfl, hw, by unfold pt_B; rw [ht]; exact hP⟩, hS.F ht⟩) hS.2.2 dX7_stop_34
-- ===== X7_send
def wpVX7_send (E : String → Prop) (p1 : Int32) (M : pt_M) (Q : Int32 → pt_M → Prop) : Prop :=
  wpVX7_checkRunning E M (fun (M_1 : pt_M) => wpVX7_checkEvent E p1 M_1 (fun (M_5 : pt_M) => wpX3_proceed 125 p1 M_5 (fun (r_13 : Int32) (M_13 : pt_M) => Q r_13 M_13)))
set_option maxHeartbeats 4000000 in
set_option maxRecDepth 100000 in
theorem mtVX7_send (l : Launch) (hst : l.stackTraces = false) (D : va_G) (cA : Nat → ClassId) (ad : Nat → Nat) (hI : pt_I ad) (sz : Nat) (E : String → Prop) (p1 : Int32) (M : pt_M) (Q : Int32 → pt_M → Prop) (hw : wpVX7_send E p1 M Q) : vx_Met l yX7_send (Cond.code yX7_send cX7_send 2 (some .int) :: lw_all) ({ frames := 7, cells := 2, slots := 12, locals := 141 } : Room) (va_Pc [.ref (ad 0), .int p1] (px_P D cA ad sz M)) (va_Qi Q (pt_B D cA ad) (pt_fr ad sz)) (px_E E ad sz) 2 12 (pt_fr ad sz) := by
  refine vx_ofW (cc := cX7_send) (maxL := 2) (ret := (some .int)) (by decide) rfl ?_
  intro p e s m args below meth c s₁ B hml hout hv
  obtain ⟨rfl, ⟨hsz, hP, hK⟩, hZ⟩ := hv
  have hx := B.exec
  have hb := B.bytes
  have hr := B.returns
  have hts0 := atoms_spec (ws := (Cond.code yX7_send cX7_send 2 (some .int) :: lw_all)) B.pre
  have hown : s.vm.findClass RX7 = some m.cls := findClass_of_methodNamed B.named
  have hlocks := B.notSynchronized
  subst hsz
  have F : pt_F p m c cX7_send 2 s _ RX7 D cA := ⟨⟨hx, hb, hml, hown, fun w h => hts0 w (List.mem_cons_of_mem _ h)⟩, hK⟩
  have hD : ∀ M, va_D (pt_fr ad s.heap.size) (pt_W cA ad M) := pt_D hI (fun k h => Or.inl ⟨k, h, rfl⟩)
  have hS : va_S (pt_fr ad s.heap.size) s.heap s.heap [] := va_S.rf
  have hl := lv_entry ([.ref (ad 0), .int p1]) (n := 2) (Nat.le_of_ble_eq_true rfl)
  rw [lg_entry_eq]
  generalize (lg_sl ([.ref (ad 0), .int p1]) ++ List.replicate (2 - (lg_sl ([.ref (ad 0), .int p1])).length) Slot.unset).toArray = ls at hl ⊢
  have hl : lv_has ls 2 [(0, .ref (ad 0)), (1, .int p1)] := hl
  unfold wpVX7_send at hw
  refine lv_aload_n hx hb dX7_send_0 rfl (lv_at hl 0 rfl) ?_
  refine px_callv (E := E) (px_runV (n := 0) (As := []) (rest := []) F hP hZ hS (fun q h => px_frs hS.1 q h) (pt_c7 _ pt_k0) (pt_l7 pt_k0) rfl (mtVX7_checkRunning l hst D cA ad hI _ E M _ hw) kw_831 kw_828 kw_52 kw_830 kw_21 ⟨by decide, by decide, by decide +kernel⟩ ⟨rfl, rfl, (Nat.le_of_ble_eq_true rfl), (Nat.le_of_ble_eq_true rfl)⟩ rfl hl.1 rfl (Nat.le_of_ble_eq_true rfl) dX7_send_1 ⟨(Nat.le_of_ble_eq_true rfl), (Nat.le_of_ble_eq_true rfl)⟩) hS (fun _ h => h) (fun X ce q9 H locs hE hS _ _ hce hcv hcl => px_out hout hlocks hE hS hce hcv hcl (Nat.le_of_ble_eq_true rfl) (Nat.le_of_ble_eq_true rfl)) (fun M_1 H locs hw hP hS _ _ => ?_)
  refine W.widen (k := 1) (n := 6) (Nat.le_of_ble_eq_true rfl) (Nat.le_of_ble_eq_true rfl) ?_
  refine lv_iload_n hx hb dX7_send_4 rfl (lv_at hl 1 rfl) ?_
  refine px_callv (E := E) (px_runS (n := 1) (As := [.int p1]) (rest := []) F hP hZ hS (fun q h => px_frs hS.1 q h) (mtVX7_checkEvent l hst D cA ad hI _ E p1 M_1 _ hw) kw_842 kw_840 kw_52 kw_841 ⟨by decide, by decide, by decide +kernel⟩ ⟨rfl, rfl, (Nat.le_of_ble_eq_true rfl), (Nat.le_of_ble_eq_true rfl)⟩ rfl hl.1 rfl (Nat.le_of_ble_eq_true rfl) dX7_send_5 ⟨(Nat.le_of_ble_eq_true rfl), (Nat.le_of_ble_eq_true rfl)⟩) hS (fun _ h => h) (fun X ce q9 H locs hE hS _ _ hce hcv hcl => px_out hout hlocks hE hS hce hcv hcl (Nat.le_of_ble_eq_true rfl) (Nat.le_of_ble_eq_true rfl)) (fun M_5 H locs hw hP hS _ _ => ?_)
  refine W.widen (k := 2) (n := 12) (Nat.le_of_ble_eq_true rfl) (Nat.le_of_ble_eq_true rfl) ?_
  refine lv_aload_n hx hb dX7_send_8 rfl (lv_at hl 0 rfl) ?_
  refine pt_get F hP (pt_c7 _ pt_k0) (pt_l7 pt_k0) inX7 rfl 1 (by decide) kw_371 rfl rfl dX7_send_9 ?_
  refine lv_iload_n hx hb dX7_send_12 rfl (lv_at hl 1 rfl) ?_
  refine pt_calli (pt_runV (n := 1) (As := [.int p1]) (rest := []) F hP (pt_c3 _ pt_k125) (pt_l3 pt_k125) rfl (mtX3_proceed l D cA ad hI _ 125 pt_k125 p1 M_5 _ hw) kw_747 kw_744 kw_57 kw_745 kw_746 ⟨by decide, by decide, by decide +kernel⟩ ⟨rfl, rfl, Nat.le_of_ble_eq_true rfl, Nat.le_of_ble_eq_true rfl⟩ rfl hl.1 rfl (Nat.le_of_ble_eq_true rfl) dX7_send_13 ⟨Nat.le_of_ble_eq_true rfl, Nat.le_of_ble_eq_true rfl⟩) hS (fun _ h => h) (fun r_13 M_13 H locs hw hP hS _ _ => ?_)
  refine vx_ret ?_
  exact W.iret (v := r_13) hx hb hr (fun t ht hW => ⟨⟨r_13, M_13, rfl, hw, by unfold pt_B; rw [ht]; exact hP⟩, hS.F ht⟩) hS.2.2 dX7_send_16
-- ===== X7_tick
def lbVX7_tick_26 (E : String → Prop) (p1 : Int32) (Q : Int32 → pt_M → Prop)  (R26 : Int32 → Int32 → pt_M → Prop) (x2 : Int32) (x3 : Int32) (M : pt_M) : Prop :=
  (p1 ≤ x3 → Q x2 M) ∧ (¬ p1 ≤ x3 → wpX3_proceed 125 10 M (fun (r_38 : Int32) (M_38 : pt_M) => ∀ x2_42 : Int32, x2_42 = (x2 + r_38) → ∀ x3_43 : Int32, x3_43 = x3 + 1 → R26 x2_42 x3_43 M_38))
def lpVX7_tick_26 (E : String → Prop) (p1 : Int32) (Q : Int32 → pt_M → Prop)  : Nat → Int32 → Int32 → pt_M → Prop
  | 0 => fun _ _ _ => False
  | n + 1 => fun x2 x3 M => lbVX7_tick_26 E p1 Q (lpVX7_tick_26 E p1 Q n) x2 x3 M
def wpVX7_tick (E : String → Prop) (p1 : Int32) (M : pt_M) (Q : Int32 → pt_M → Prop) : Prop :=
  wpVX7_checkRunning E M (fun (M_1 : pt_M) => wpX7_isWithin p1 1 50 M_1 (fun (r_8 : Int32) (M_8 : pt_M) => (¬ r_8 = 0 → ∃ n : Nat, lpVX7_tick_26 E p1 Q n 0 0 M_8) ∧ (r_8 = 0 → E "java/lang/IllegalArgumentException")))
set_option maxHeartbeats 4000000 in
set_option maxRecDepth 100000 in
theorem mtVX7_tick (l : Launch) (hst : l.stackTraces = false) (D : va_G) (cA : Nat → ClassId) (ad : Nat → Nat) (hI : pt_I ad) (sz : Nat) (E : String → Prop) (p1 : Int32) (M : pt_M) (Q : Int32 → pt_M → Prop) (hw : wpVX7_tick E p1 M Q) : vx_Met l yX7_tick (Cond.code yX7_tick cX7_tick 4 (some .int) :: lw_all) ({ frames := 7, cells := 2, slots := 12, locals := 141 } : Room) (va_Pc [.ref (ad 0), .int p1] (px_P D cA ad sz M)) (va_Qi Q (pt_B D cA ad) (pt_fr ad sz)) (px_E E ad sz) 2 12 (pt_fr ad sz) := by
  refine vx_ofW (cc := cX7_tick) (maxL := 4) (ret := (some .int)) (by decide) rfl ?_
  intro p e s m args below meth c s₁ B hml hout hv
  obtain ⟨rfl, ⟨hsz, hP, hK⟩, hZ⟩ := hv
  have hx := B.exec
  have hb := B.bytes
  have hr := B.returns
  have hts0 := atoms_spec (ws := (Cond.code yX7_tick cX7_tick 4 (some .int) :: lw_all)) B.pre
  have hown : s.vm.findClass RX7 = some m.cls := findClass_of_methodNamed B.named
  have hlocks := B.notSynchronized
  subst hsz
  have F : pt_F p m c cX7_tick 4 s _ RX7 D cA := ⟨⟨hx, hb, hml, hown, fun w h => hts0 w (List.mem_cons_of_mem _ h)⟩, hK⟩
  have hD : ∀ M, va_D (pt_fr ad s.heap.size) (pt_W cA ad M) := pt_D hI (fun k h => Or.inl ⟨k, h, rfl⟩)
  have hS : va_S (pt_fr ad s.heap.size) s.heap s.heap [] := va_S.rf
  have hl := lv_entry ([.ref (ad 0), .int p1]) (n := 4) (Nat.le_of_ble_eq_true rfl)
  rw [lg_entry_eq]
  generalize (lg_sl ([.ref (ad 0), .int p1]) ++ List.replicate (4 - (lg_sl ([.ref (ad 0), .int p1])).length) Slot.unset).toArray = ls at hl ⊢
  have hl : lv_has ls 4 [(0, .ref (ad 0)), (1, .int p1)] := hl
  have L26 : ∀ (n26 : Nat) (x2 : Int32) (x3 : Int32) (M : pt_M) (H : Heap) (locs : List Loc) (ls : Array Slot), lpVX7_tick_26 E p1 Q n26 x2 x3 M → va_P D pt_cl (pt_W cA ad M) H → va_S (pt_fr ad s.heap.size) s.heap H locs → lv_has ls 4 [(0, .ref (ad 0)), (1, .int p1), (2, .int x2), (3, .int x3)] → W p l e (headSpec (Cond.code yX7_tick cX7_tick 4 (some .int) :: lw_all) ({ frames := 7, cells := 2, slots := 12, locals := 141 } : Room)).room s m ([.ref (ad 0), .int p1] : List Value).toArray below meth c H locs 1 6 (vx_MQ below (va_Qi Q (pt_B D cA ad) (pt_fr ad s.heap.size)) (px_E E ad s.heap.size) ([.ref (ad 0), .int p1] : List Value).toArray s 2 12 (pt_fr ad s.heap.size)) (F0 m 26 ls []) := by
    intro n26
    induction n26 with
    | zero => intro x2 x3 M H locs ls hw; exact hw.elim
    | succ n26 ih26 =>
      intro x2 x3 M H locs ls hw hP hS hl
      replace hw : lbVX7_tick_26 E p1 Q (lpVX7_tick_26 E p1 Q n26) x2 x3 M := hw
      unfold lbVX7_tick_26 at hw
      refine lv_iload_n hx hb dX7_tick_26 rfl (lv_at hl 3 rfl) ?_
      refine lv_iload_n hx hb dX7_tick_27 rfl (lv_at hl 1 rfl) ?_
      refine lv_icmp_ge (tgt := 49) hx hb dX7_tick_28 (by decide) (fun hc28 => ?_) (fun hc28 => ?_)
      · replace hw := hw.1 hc28
        refine lv_iload_n hx hb dX7_tick_49 rfl (lv_at hl 2 rfl) ?_
        refine W.widen (k := 2) (n := 12) (Nat.le_of_ble_eq_true rfl) (Nat.le_of_ble_eq_true rfl) ?_
        refine vx_ret ?_
        exact W.iret (v := x2) hx hb hr (fun t ht hW => ⟨⟨x2, M, rfl, hw, by unfold pt_B; rw [ht]; exact hP⟩, hS.F ht⟩) hS.2.2 dX7_tick_50
      · replace hw := hw.2 hc28
        refine lv_iload_n hx hb dX7_tick_31 rfl (lv_at hl 2 rfl) ?_
        refine lv_aload_n hx hb dX7_tick_32 rfl (lv_at hl 0 rfl) ?_
        refine pt_get F hP (pt_c7 _ pt_k0) (pt_l7 pt_k0) inX7 rfl 1 (by decide) kw_371 rfl rfl dX7_tick_33 ?_
        refine lv_bipush (v := 10) hx hb dX7_tick_36 (by decide) ?_
        refine pt_calli (pt_runV (n := 1) (As := [.int 10]) (rest := [.int x2]) F hP (pt_c3 _ pt_k125) (pt_l3 pt_k125) rfl (mtX3_proceed l D cA ad hI _ 125 pt_k125 10 M _ hw) kw_747 kw_744 kw_57 kw_745 kw_746 ⟨by decide, by decide, by decide +kernel⟩ ⟨rfl, rfl, Nat.le_of_ble_eq_true rfl, Nat.le_of_ble_eq_true rfl⟩ rfl hl.1 rfl (Nat.le_of_ble_eq_true rfl) dX7_tick_38 ⟨Nat.le_of_ble_eq_true rfl, Nat.le_of_ble_eq_true rfl⟩) hS (fun _ h => h) (fun r_38 M_38 H locs hw hP hS _ _ => ?_)
        refine lv_iadd hx hb dX7_tick_41 ?_
        refine lv_topi (fun x2_42 ex2_42 => ?_)
        replace hw := hw x2_42 ex2_42
        refine lv_istore_n (lv' := [(2, .int x2_42), (0, .ref (ad 0)), (1, .int p1), (3, .int x3)]) hx hb dX7_tick_42 rfl hl (by decide) rfl (fun ls hl => ?_)
        obtain ⟨x3_43, ex3_43⟩ : ∃ y : Int32, y = x3 + 1 := ⟨_, rfl⟩
        replace hw := hw x3_43 ex3_43
        refine lv_iinc (v := x3_43) (lv' := [(3, .int x3_43), (2, .int x2_42), (0, .ref (ad 0)), (1, .int p1)]) hx hb dX7_tick_43 hl (k := 3) rfl (by rw [ex3_43]; rfl) (by decide) rfl (fun ls hl => ?_)
        refine lv_goto (tgt := 26) hx hb dX7_tick_46 (by decide) ?_
        exact ih26 x2_42 x3_43 M_38 _ _ _ hw hP hS (lv_sub hl [2, 3, 1, 0] rfl)
  unfold wpVX7_tick at hw
  refine lv_aload_n hx hb dX7_tick_0 rfl (lv_at hl 0 rfl) ?_
  refine px_callv (E := E) (px_runV (n := 0) (As := []) (rest := []) F hP hZ hS (fun q h => px_frs hS.1 q h) (pt_c7 _ pt_k0) (pt_l7 pt_k0) rfl (mtVX7_checkRunning l hst D cA ad hI _ E M _ hw) kw_831 kw_828 kw_52 kw_830 kw_21 ⟨by decide, by decide, by decide +kernel⟩ ⟨rfl, rfl, (Nat.le_of_ble_eq_true rfl), (Nat.le_of_ble_eq_true rfl)⟩ rfl hl.1 rfl (Nat.le_of_ble_eq_true rfl) dX7_tick_1 ⟨(Nat.le_of_ble_eq_true rfl), (Nat.le_of_ble_eq_true rfl)⟩) hS (fun _ h => h) (fun X ce q9 H locs hE hS _ _ hce hcv hcl => px_out hout hlocks hE hS hce hcv hcl (Nat.le_of_ble_eq_true rfl) (Nat.le_of_ble_eq_true rfl)) (fun M_1 H locs hw hP hS _ _ => ?_)
  refine W.widen (k := 1) (n := 6) (Nat.le_of_ble_eq_true rfl) (Nat.le_of_ble_eq_true rfl) ?_
  refine lv_iload_n hx hb dX7_tick_4 rfl (lv_at hl 1 rfl) ?_
  refine lv_iconst (v := 1) hx hb dX7_tick_5 (by decide) ?_
  refine lv_bipush (v := 50) hx hb dX7_tick_6 (by decide) ?_
  refine pt_calli (pt_runS (n := 3) (As := [.int p1, .int 1, .int 50]) (rest := []) F hP (mtX7_isWithin l D cA ad hI _ p1 1 50 M_1 _ hw) kw_432 kw_430 kw_52 kw_431 ⟨by decide, by decide, by decide +kernel⟩ ⟨rfl, rfl, Nat.le_of_ble_eq_true rfl, Nat.le_of_ble_eq_true rfl⟩ rfl hl.1 rfl (Nat.le_of_ble_eq_true rfl) dX7_tick_8 ⟨Nat.le_of_ble_eq_true rfl, Nat.le_of_ble_eq_true rfl⟩) hS (fun _ h => h) (fun r_8 M_8 H locs hw hP hS _ _ => ?_)
  refine lv_if_ne (tgt := 22) hx hb dX7_tick_11 (by decide) (fun hc11 => ?_) (fun hc11 => ?_)
  · replace hw := hw.1 hc11
    refine lv_iconst (v := 0) hx hb dX7_tick_22 (by decide) ?_
    refine lv_istore_n (lv' := [(2, .int 0), (0, .ref (ad 0)), (1, .int p1)]) hx hb dX7_tick_23 rfl hl (by decide) rfl (fun ls hl => ?_)
    refine lv_iconst (v := 0) hx hb dX7_tick_24 (by decide) ?_
    refine lv_istore_n (lv' := [(3, .int 0), (2, .int 0), (0, .ref (ad 0)), (1, .int p1)]) hx hb dX7_tick_25 rfl hl (by decide) rfl (fun ls hl => ?_)
    obtain ⟨n_, hw⟩ := hw
    exact L26 n_ 0 0 M_8 _ _ _ hw hP hS (lv_sub hl [2, 3, 1, 0] rfl)
  · replace hw := hw.2 hc11
    exact px_thr F hst (by decide) kw_545 kw_76 vatRX7_68 vgdRX7_68 hZ hS hl.1 dX7_tick_14 dX7_tick_17 dX7_tick_18 dX7_tick_21 hout (Nat.le_of_ble_eq_true rfl) (Nat.le_of_ble_eq_true rfl) (Nat.le_of_ble_eq_true rfl) (Nat.le_of_ble_eq_true rfl) hlocks hw (Nat.le_of_ble_eq_true rfl) (Nat.le_of_ble_eq_true rfl)
-- ===== X7_ofState
def wpVX7_ofState (E : String → Prop) (p1 : Int32) (p2 : Int32) (M : pt_M) (Q : Int32 → pt_M → Prop) : Prop :=
  wpVX7_checkState E p1 M (fun (M_2 : pt_M) => vp_in p1 20 ∧ ((p2 = 0 → Q (M_2 (pt_s p1) 2) M_2) ∧ (¬ p2 = 0 → (p2 = 1 → Q (M_2 (pt_s p1) 3) M_2) ∧ (¬ p2 = 1 → (p2 = 2 → Q (M_2 (pt_s p1) 4) M_2) ∧ (¬ p2 = 2 → (p2 = 3 → wpJ6_bitCount_0f7a4 (M_2 (pt_s p1) 5) M_2 (fun (r_67 : Int32) (M_67 : pt_M) => Q r_67 M_67)) ∧ (¬ p2 = 3 → E "java/lang/IllegalArgumentException"))))))
set_option maxHeartbeats 4000000 in
set_option maxRecDepth 100000 in
theorem mtVX7_ofState (l : Launch) (hst : l.stackTraces = false) (D : va_G) (cA : Nat → ClassId) (ad : Nat → Nat) (hI : pt_I ad) (sz : Nat) (E : String → Prop) (p1 : Int32) (p2 : Int32) (M : pt_M) (Q : Int32 → pt_M → Prop) (hw : wpVX7_ofState E p1 p2 M Q) : vx_Met l yX7_ofState (Cond.code yX7_ofState cX7_ofState 4 (some .int) :: lw_all) ({ frames := 7, cells := 2, slots := 12, locals := 102 } : Room) (va_Pc [.ref (ad 0), .int p1, .int p2] (px_P D cA ad sz M)) (va_Qi Q (pt_B D cA ad) (pt_fr ad sz)) (px_E E ad sz) 2 12 (pt_fr ad sz) := by
  refine vx_ofW (cc := cX7_ofState) (maxL := 4) (ret := (some .int)) (by decide) rfl ?_
  intro p e s m args below meth c s₁ B hml hout hv
  obtain ⟨rfl, ⟨hsz, hP, hK⟩, hZ⟩ := hv
  have hx := B.exec
  have hb := B.bytes
  have hr := B.returns
  have hts0 := atoms_spec (ws := (Cond.code yX7_ofState cX7_ofState 4 (some .int) :: lw_all)) B.pre
  have hown : s.vm.findClass RX7 = some m.cls := findClass_of_methodNamed B.named
  have hlocks := B.notSynchronized
  subst hsz
  have F : pt_F p m c cX7_ofState 4 s _ RX7 D cA := ⟨⟨hx, hb, hml, hown, fun w h => hts0 w (List.mem_cons_of_mem _ h)⟩, hK⟩
  have hD : ∀ M, va_D (pt_fr ad s.heap.size) (pt_W cA ad M) := pt_D hI (fun k h => Or.inl ⟨k, h, rfl⟩)
  have hS : va_S (pt_fr ad s.heap.size) s.heap s.heap [] := va_S.rf
  have hl := lv_entry ([.ref (ad 0), .int p1, .int p2]) (n := 4) (Nat.le_of_ble_eq_true rfl)
  rw [lg_entry_eq]
  generalize (lg_sl ([.ref (ad 0), .int p1, .int p2]) ++ List.replicate (4 - (lg_sl ([.ref (ad 0), .int p1, .int p2])).length) Slot.unset).toArray = ls at hl ⊢
  have hl : lv_has ls 4 [(0, .ref (ad 0)), (1, .int p1), (2, .int p2)] := hl
  unfold wpVX7_ofState at hw
  refine lv_aload_n hx hb dX7_ofState_0 rfl (lv_at hl 0 rfl) ?_
  refine lv_iload_n hx hb dX7_ofState_1 rfl (lv_at hl 1 rfl) ?_
  refine px_callv (E := E) (px_runV (n := 1) (As := [.int p1]) (rest := []) F hP hZ hS (fun q h => px_frs hS.1 q h) (pt_c7 _ pt_k0) (pt_l7 pt_k0) rfl (mtVX7_checkState l hst D cA ad hI _ E p1 M _ hw) kw_481 kw_478 kw_52 kw_480 kw_1 ⟨by decide, by decide, by decide +kernel⟩ ⟨rfl, rfl, (Nat.le_of_ble_eq_true rfl), (Nat.le_of_ble_eq_true rfl)⟩ rfl hl.1 rfl (Nat.le_of_ble_eq_true rfl) dX7_ofState_2 ⟨(Nat.le_of_ble_eq_true rfl), (Nat.le_of_ble_eq_true rfl)⟩) hS (fun _ h => h) (fun X ce q9 H locs hE hS _ _ hce hcv hcl => px_out hout hlocks hE hS hce hcv hcl (Nat.le_of_ble_eq_true rfl) (Nat.le_of_ble_eq_true rfl)) (fun M_2 H locs hw hP hS _ _ => ?_)
  refine W.widen (k := 1) (n := 6) (Nat.le_of_ble_eq_true rfl) (Nat.le_of_ble_eq_true rfl) ?_
  refine lv_aload_n hx hb dX7_ofState_5 rfl (lv_at hl 0 rfl) ?_
  refine pt_get F hP (pt_c7 _ pt_k0) (pt_l7 pt_k0) inX7 rfl 0 (by decide) kw_370 rfl rfl dX7_ofState_6 ?_
  refine pt_get F hP (pt_c1 _ pt_k1) (pt_l1 pt_k1) inX1 rfl 0 (by decide) kw_223 rfl rfl dX7_ofState_9 ?_
  refine lv_iload_n hx hb dX7_ofState_12 rfl (lv_at hl 1 rfl) ?_
  have hv13 := hw.1
  replace hw := hw.2
  refine pt_alds F hP hv13 dX7_ofState_13 ?_
  refine lv_astore_n (lv' := [(3, .ref (ad (pt_s p1))), (0, .ref (ad 0)), (1, .int p1), (2, .int p2)]) hx hb dX7_ofState_14 rfl hl (by decide) rfl (fun ls hl => ?_)
  refine lv_iload_n hx hb dX7_ofState_15 rfl (lv_at hl 3 rfl) ?_
  by_cases hn16_0 : p2 = 0
  · replace hw := hw.1 hn16_0
    refine lv_tableIn (off := 32) (tgt := 48) hx hb dX7_ofState_16 (by rw [hn16_0]; decide) (by rw [hn16_0]; decide) (by rw [hn16_0]; rfl) (by decide) ?_
    refine lv_aload_n hx hb dX7_ofState_48 rfl (lv_at hl 0 rfl) ?_
    refine pt_get F hP (pt_c5 _ (pt_ks hv13)) (pt_l5 (pt_ks hv13)) inX5 rfl 2 (by decide) kw_137 rfl rfl dX7_ofState_49 ?_
    refine W.widen (k := 2) (n := 12) (Nat.le_of_ble_eq_true rfl) (Nat.le_of_ble_eq_true rfl) ?_
    refine vx_ret ?_
    exact W.iret (v := (M_2 (pt_s p1) 2)) hx hb hr (fun t ht hW => ⟨⟨(M_2 (pt_s p1) 2), M_2, rfl, hw, by unfold pt_B; rw [ht]; exact hP⟩, hS.F ht⟩) hS.2.2 dX7_ofState_52
  · replace hw := hw.2 hn16_0
    by_cases hn16_1 : p2 = 1
    · replace hw := hw.1 hn16_1
      refine lv_tableIn (off := 37) (tgt := 53) hx hb dX7_ofState_16 (by rw [hn16_1]; decide) (by rw [hn16_1]; decide) (by rw [hn16_1]; rfl) (by decide) ?_
      refine lv_aload_n hx hb dX7_ofState_53 rfl (lv_at hl 0 rfl) ?_
      refine pt_get F hP (pt_c5 _ (pt_ks hv13)) (pt_l5 (pt_ks hv13)) inX5 rfl 3 (by decide) kw_141 rfl rfl dX7_ofState_54 ?_
      refine W.widen (k := 2) (n := 12) (Nat.le_of_ble_eq_true rfl) (Nat.le_of_ble_eq_true rfl) ?_
      refine vx_ret ?_
      exact W.iret (v := (M_2 (pt_s p1) 3)) hx hb hr (fun t ht hW => ⟨⟨(M_2 (pt_s p1) 3), M_2, rfl, hw, by unfold pt_B; rw [ht]; exact hP⟩, hS.F ht⟩) hS.2.2 dX7_ofState_57
    · replace hw := hw.2 hn16_1
      by_cases hn16_2 : p2 = 2
      · replace hw := hw.1 hn16_2
        refine lv_tableIn (off := 42) (tgt := 58) hx hb dX7_ofState_16 (by rw [hn16_2]; decide) (by rw [hn16_2]; decide) (by rw [hn16_2]; rfl) (by decide) ?_
        refine lv_aload_n hx hb dX7_ofState_58 rfl (lv_at hl 0 rfl) ?_
        refine pt_get F hP (pt_c5 _ (pt_ks hv13)) (pt_l5 (pt_ks hv13)) inX5 rfl 4 (by decide) kw_144 rfl rfl dX7_ofState_59 ?_
        refine W.widen (k := 2) (n := 12) (Nat.le_of_ble_eq_true rfl) (Nat.le_of_ble_eq_true rfl) ?_
        refine vx_ret ?_
        exact W.iret (v := (M_2 (pt_s p1) 4)) hx hb hr (fun t ht hW => ⟨⟨(M_2 (pt_s p1) 4), M_2, rfl, hw, by unfold pt_B; rw [ht]; exact hP⟩, hS.F ht⟩) hS.2.2 dX7_ofState_62
      · replace hw := hw.2 hn16_2
        by_cases hn16_3 : p2 = 3
        · replace hw := hw.1 hn16_3
          refine lv_tableIn (off := 47) (tgt := 63) hx hb dX7_ofState_16 (by rw [hn16_3]; decide) (by rw [hn16_3]; decide) (by rw [hn16_3]; rfl) (by decide) ?_
          refine lv_aload_n hx hb dX7_ofState_63 rfl (lv_at hl 0 rfl) ?_
          refine pt_get F hP (pt_c5 _ (pt_ks hv13)) (pt_l5 (pt_ks hv13)) inX5 rfl 5 (by decide) kw_146 rfl rfl dX7_ofState_64 ?_
          refine pt_calli (pt_runS (n := 1) (As := [.int (M_2 (pt_s p1) 5)]) (rest := []) F hP (mtJ6_bitCount_0f7a4 l D cA ad hI _ (M_2 (pt_s p1) 5) M_2 _ hw) kw_443 kw_441 kw_80 kw_442 ⟨by decide, by decide, by decide +kernel⟩ ⟨rfl, rfl, Nat.le_of_ble_eq_true rfl, Nat.le_of_ble_eq_true rfl⟩ rfl hl.1 rfl (Nat.le_of_ble_eq_true rfl) dX7_ofState_67 ⟨Nat.le_of_ble_eq_true rfl, Nat.le_of_ble_eq_true rfl⟩) hS (fun _ h => h) (fun r_67 M_67 H locs hw hP hS _ _ => ?_)
          refine W.widen (k := 2) (n := 12) (Nat.le_of_ble_eq_true rfl) (Nat.le_of_ble_eq_true rfl) ?_
          refine vx_ret ?_
          exact W.iret (v := r_67) hx hb hr (fun t ht hW => ⟨⟨r_67, M_67, rfl, hw, by unfold pt_B; rw [ht]; exact hP⟩, hS.F ht⟩) hS.2.2 dX7_ofState_70
        · replace hw := hw.2 hn16_3
          refine lv_tableOut (tgt := 71) hx hb dX7_ofState_16 (pt_out03 hn16_0 hn16_1 hn16_2 hn16_3) (by decide) ?_
          exact px_thr F hst (by decide) kw_545 kw_76 vatRX7_68 vgdRX7_68 hZ hS hl.1 dX7_ofState_71 dX7_ofState_74 dX7_ofState_75 dX7_ofState_78 hout (Nat.le_of_ble_eq_true rfl) (Nat.le_of_ble_eq_true rfl) (Nat.le_of_ble_eq_true rfl) (Nat.le_of_ble_eq_true rfl) hlocks hw (Nat.le_of_ble_eq_true rfl) (Nat.le_of_ble_eq_true rfl)
