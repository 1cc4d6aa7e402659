-- ===== X1_scopeOf
def wjX1_scopeOf_52 (p1 : Int32) (p2 : Int32) (Q : Int32 → pt_M → Prop) (R15 : Int32 → Int32 → pt_M → Prop) (x3 : Int32) (x4 : Int32) (M : pt_M) : Prop :=
  ∀ x4_52 : Int32, x4_52 = x4 + (-1) → R15 x3 x4_52 M
def lbX1_scopeOf_15 (p1 : Int32) (p2 : Int32) (Q : Int32 → pt_M → Prop)  (R15 : Int32 → Int32 → pt_M → Prop) (x3 : Int32) (x4 : Int32) (M : pt_M) : Prop :=
  (x4 ≤ 0 → Q 0 M) ∧ (¬ x4 ≤ 0 → vp_in x4 20 ∧ ((¬ (M (pt_s x4) 2) = 0 → wjX1_scopeOf_52 p1 p2 Q R15 x3 x4 M) ∧ ((M (pt_s x4) 2) = 0 → vp_in x4 20 ∧ ((¬ ((M (pt_s x4) 7) &&& x3) = x3 → wjX1_scopeOf_52 p1 p2 Q R15 x3 x4 M) ∧ (((M (pt_s x4) 7) &&& x3) = x3 → Q x4 M)))))
def lpX1_scopeOf_15 (p1 : Int32) (p2 : Int32) (Q : Int32 → pt_M → Prop)  : Nat → Int32 → Int32 → pt_M → Prop
  | 0 => fun _ _ _ => False
  | n + 1 => fun x3 x4 M => lbX1_scopeOf_15 p1 p2 Q (lpX1_scopeOf_15 p1 p2 Q n) x3 x4 M
def wpX1_scopeOf (p1 : Int32) (p2 : Int32) (M : pt_M) (Q : Int32 → pt_M → Prop) : Prop :=
  wpX7_setOf p1 M (fun (r_1 : Int32) (M_1 : pt_M) => wpX7_setOf p2 M_1 (fun (r_5 : Int32) (M_5 : pt_M) => ∀ x3_9 : Int32, x3_9 = (r_1 ||| r_5) → ∀ x4_13 : Int32, x4_13 = (p1 - 1) → ∃ n : Nat, lpX1_scopeOf_15 p1 p2 Q n x3_9 x4_13 M_5))
set_option maxHeartbeats 4000000 in
set_option maxRecDepth 100000 in
theorem mtX1_scopeOf (l : Launch) (D : va_G) (cA : Nat → ClassId) (ad : Nat → Nat) (hI : pt_I ad) (sz : Nat) (p1 : Int32) (p2 : Int32) (M : pt_M) (Q : Int32 → pt_M → Prop) (hw : wpX1_scopeOf p1 p2 M Q) : Met l yX1_scopeOf (Cond.code yX1_scopeOf cX1_scopeOf 5 (some .int) :: lw_all) ({ frames := 1, cells := 0, slots := 0, locals := 20 } : Room) (va_Pc [.ref (ad 1), .int p1, .int p2] (pt_P D cA ad sz M)) (va_Qi Q (pt_B D cA ad) (pt_fr ad sz)) 0 0 (pt_fr ad sz) := by
  refine Met.ofW (cc := cX1_scopeOf) (maxL := 5) (ret := (some .int)) (by decide) rfl ?_
  intro p e s m args below meth c s₁ B hml hv
  obtain ⟨rfl, hsz, hP, hK⟩ := hv
  have hx := B.exec
  have hb := B.bytes
  have hr := B.returns
  have hts0 := atoms_spec (ws := (Cond.code yX1_scopeOf cX1_scopeOf 5 (some .int) :: lw_all)) B.pre
  have hown : s.vm.findClass RX1 = some m.cls := findClass_of_methodNamed B.named
  have hlocks := B.notSynchronized
  subst hsz
  have F : pt_F p m c cX1_scopeOf 5 s _ RX1 D cA := ⟨⟨hx, hb, hml, hown, fun w h => hts0 w (List.mem_cons_of_mem _ h)⟩, hK⟩
  have hD : ∀ M, va_D (pt_fr ad s.heap.size) (pt_W cA ad M) := pt_D hI (fun k h => Or.inl ⟨k, h, rfl⟩)
  have hS : va_S (pt_fr ad s.heap.size) s.heap s.heap [] := va_S.rf
  have hl := lv_entry ([.ref (ad 1), .int p1, .int p2]) (n := 5) (Nat.le_of_ble_eq_true rfl)
  rw [lg_entry_eq]
  generalize (lg_sl ([.ref (ad 1), .int p1, .int p2]) ++ List.replicate (5 - (lg_sl ([.ref (ad 1), .int p1, .int p2])).length) Slot.unset).toArray = ls at hl ⊢
  have hl : lv_has ls 5 [(0, .ref (ad 1)), (1, .int p1), (2, .int p2)] := hl
  have L15 : ∀ (n15 : Nat) (x3 : Int32) (x4 : Int32) (M : pt_M) (H : Heap) (locs : List Loc) (ls : Array Slot), lpX1_scopeOf_15 p1 p2 Q n15 x3 x4 M → va_P D pt_cl (pt_W cA ad M) H → va_S (pt_fr ad s.heap.size) s.heap H locs → lv_has ls 5 [(0, .ref (ad 1)), (3, .int x3), (4, .int x4)] → W p l e (headSpec (Cond.code yX1_scopeOf cX1_scopeOf 5 (some .int) :: lw_all) ({ frames := 1, cells := 0, slots := 0, locals := 20 } : Room)).room s m ([.ref (ad 1), .int p1, .int p2] : List Value).toArray below meth c H locs 0 0 (MQ below (va_Qi Q (pt_B D cA ad) (pt_fr ad s.heap.size)) ([.ref (ad 1), .int p1, .int p2] : List Value).toArray s 0 0 (pt_fr ad s.heap.size)) (F0 m 15 ls []) := by
    intro n15
    induction n15 with
    | zero => intro x3 x4 M H locs ls hw; exact hw.elim
    | succ n15 ih15 =>
      have J52 : ∀ (x3 : Int32) (x4 : Int32) (M : pt_M) (H : Heap) (locs : List Loc) (ls : Array Slot), wjX1_scopeOf_52 p1 p2 Q (lpX1_scopeOf_15 p1 p2 Q n15) x3 x4 M → va_P D pt_cl (pt_W cA ad M) H → va_S (pt_fr ad s.heap.size) s.heap H locs → lv_has ls 5 [(0, .ref (ad 1)), (3, .int x3), (4, .int x4)] → W p l e (headSpec (Cond.code yX1_scopeOf cX1_scopeOf 5 (some .int) :: lw_all) ({ frames := 1, cells := 0, slots := 0, locals := 20 } : Room)).room s m ([.ref (ad 1), .int p1, .int p2] : List Value).toArray below meth c H locs 0 0 (MQ below (va_Qi Q (pt_B D cA ad) (pt_fr ad s.heap.size)) ([.ref (ad 1), .int p1, .int p2] : List Value).toArray s 0 0 (pt_fr ad s.heap.size)) (F0 m 52 ls []) := by
        intro x3 x4 M H locs ls hw hP hS hl
        unfold wjX1_scopeOf_52 at hw
        obtain ⟨x4_52, ex4_52⟩ : ∃ y : Int32, y = x4 + (-1) := ⟨_, rfl⟩
        replace hw := hw x4_52 ex4_52
        refine lv_iinc (v := x4_52) (lv' := [(4, .int x4_52), (0, .ref (ad 1)), (3, .int x3)]) hx hb dX1_scopeOf_52 hl (k := 2) rfl (by rw [ex4_52]; rfl) (by decide) rfl (fun ls hl => ?_)
        refine lv_goto (tgt := 15) hx hb dX1_scopeOf_55 (by decide) ?_
        exact ih15 x3 x4_52 M _ _ _ hw hP hS (lv_sub hl [1, 2, 0] rfl)
      intro x3 x4 M H locs ls hw hP hS hl
      replace hw : lbX1_scopeOf_15 p1 p2 Q (lpX1_scopeOf_15 p1 p2 Q n15) x3 x4 M := hw
      unfold lbX1_scopeOf_15 at hw
      refine lv_iload hx hb dX1_scopeOf_15 (lv_at hl 2 rfl) ?_
      refine lv_if_le (tgt := 58) hx hb dX1_scopeOf_17 (by decide) (fun hc17 => ?_) (fun hc17 => ?_)
      · replace hw := hw.1 hc17
        refine lv_iconst (v := 0) hx hb dX1_scopeOf_58 (by decide) ?_
        exact W.iret (v := 0) hx hb hr (fun t ht hW => ⟨⟨0, M, rfl, hw, by unfold pt_B; rw [ht]; exact hP⟩, hS.F ht⟩) hS.2.2 dX1_scopeOf_59
      · replace hw := hw.2 hc17
        refine lv_aload_n hx hb dX1_scopeOf_20 rfl (lv_at hl 0 rfl) ?_
        refine pt_get F hP (pt_c1 _ pt_k1) (pt_l1 pt_k1) inX1 rfl 0 (by decide) kw_222 rfl rfl dX1_scopeOf_21 ?_
        refine lv_iload hx hb dX1_scopeOf_24 (lv_at hl 2 rfl) ?_
        have hv26 := hw.1
        replace hw := hw.2
        refine pt_alds F hP hv26 dX1_scopeOf_26 ?_
        refine pt_get F hP (pt_c5 _ (pt_ks hv26)) (pt_l5 (pt_ks hv26)) inX5 rfl 2 (by decide) kw_136 rfl rfl dX1_scopeOf_27 ?_
        refine lv_if_ne (tgt := 52) hx hb dX1_scopeOf_30 (by decide) (fun hc30 => ?_) (fun hc30 => ?_)
        · replace hw := hw.1 hc30
          exact J52 x3 x4 M _ _ _ hw hP hS (lv_sub hl [0, 1, 2] rfl)
        · replace hw := hw.2 hc30
          refine lv_aload_n hx hb dX1_scopeOf_33 rfl (lv_at hl 0 rfl) ?_
          refine pt_get F hP (pt_c1 _ pt_k1) (pt_l1 pt_k1) inX1 rfl 0 (by decide) kw_222 rfl rfl dX1_scopeOf_34 ?_
          refine lv_iload hx hb dX1_scopeOf_37 (lv_at hl 2 rfl) ?_
          have hv39 := hw.1
          replace hw := hw.2
          refine pt_alds F hP hv39 dX1_scopeOf_39 ?_
          refine pt_get F hP (pt_c5 _ (pt_ks hv39)) (pt_l5 (pt_ks hv39)) inX5 rfl 7 (by decide) kw_152 rfl rfl dX1_scopeOf_40 ?_
          refine lv_iload_n hx hb dX1_scopeOf_43 rfl (lv_at hl 1 rfl) ?_
          refine lv_iand hx hb dX1_scopeOf_44 ?_
          refine lv_iload_n hx hb dX1_scopeOf_45 rfl (lv_at hl 1 rfl) ?_
          refine lv_icmp_ne (tgt := 52) hx hb dX1_scopeOf_46 (by decide) (fun hc46 => ?_) (fun hc46 => ?_)
          · replace hw := hw.1 hc46
            exact J52 x3 x4 M _ _ _ hw hP hS (lv_sub hl [0, 1, 2] rfl)
          · replace hw := hw.2 hc46
            refine lv_iload hx hb dX1_scopeOf_49 (lv_at hl 2 rfl) ?_
            exact W.iret (v := x4) hx hb hr (fun t ht hW => ⟨⟨x4, M, rfl, hw, by unfold pt_B; rw [ht]; exact hP⟩, hS.F ht⟩) hS.2.2 dX1_scopeOf_51
  unfold wpX1_scopeOf at hw
  refine lv_iload_n hx hb dX1_scopeOf_0 rfl (lv_at hl 1 rfl) ?_
  refine pt_calli (pt_runSN (n := 1) (As := [.int p1]) (rest := []) F hP (mtX7_setOf l D cA ad hI _ p1 M _ hw) kw_103 kw_101 kw_52 kw_102 ⟨by decide, by decide, by decide +kernel⟩ ⟨rfl, rfl, Nat.le_of_ble_eq_true rfl, Nat.le_of_ble_eq_true rfl⟩ rfl hl.1 rfl (Nat.le_of_ble_eq_true rfl) dX1_scopeOf_1 ⟨Nat.zero_le _, Nat.zero_le _⟩) hS (fun _ h => h) (fun r_1 M_1 H locs hw hP hS _ _ => ?_)
  refine lv_iload_n hx hb dX1_scopeOf_4 rfl (lv_at hl 2 rfl) ?_
  refine pt_calli (pt_runSN (n := 1) (As := [.int p2]) (rest := [.int r_1]) F hP (mtX7_setOf l D cA ad hI _ p2 M_1 _ hw) kw_103 kw_101 kw_52 kw_102 ⟨by decide, by decide, by decide +kernel⟩ ⟨rfl, rfl, Nat.le_of_ble_eq_true rfl, Nat.le_of_ble_eq_true rfl⟩ rfl hl.1 rfl (Nat.le_of_ble_eq_true rfl) dX1_scopeOf_5 ⟨Nat.zero_le _, Nat.zero_le _⟩) hS (fun _ h => h) (fun r_5 M_5 H locs hw hP hS _ _ => ?_)
  refine lv_ior hx hb dX1_scopeOf_8 ?_
  refine lv_topi (fun x3_9 ex3_9 => ?_)
  replace hw := hw x3_9 ex3_9
  refine lv_istore_n (lv' := [(3, .int x3_9), (0, .ref (ad 1)), (1, .int p1), (2, .int p2)]) hx hb dX1_scopeOf_9 rfl hl (by decide) rfl (fun ls hl => ?_)
  refine lv_iload_n hx hb dX1_scopeOf_10 rfl (lv_at hl 2 rfl) ?_
  refine lv_iconst (v := 1) hx hb dX1_scopeOf_11 (by decide) ?_
  refine lv_isub hx hb dX1_scopeOf_12 ?_
  refine lv_topi (fun x4_13 ex4_13 => ?_)
  replace hw := hw x4_13 ex4_13
  refine lv_istore (lv' := [(4, .int x4_13), (3, .int x3_9), (0, .ref (ad 1)), (1, .int p1), (2, .int p2)]) hx hb dX1_scopeOf_13 hl (by decide) rfl (fun ls hl => ?_)
  obtain ⟨n_, hw⟩ := hw
  exact L15 n_ x3_9 x4_13 M_5 _ _ _ hw hP hS (lv_sub hl [2, 1, 0] rfl)
-- ===== X1_putTransition
def wjX1_putTransition_59 (p1 : Int32) (p2 : Int32) (p3 : Int32) (p4 : Int32) (Q : Int32 → pt_M → Prop)  (x5 : Int32) (qs0 : Nat) (xs1 : Int32) (M : pt_M) : Prop :=
  ∀ M_59 : pt_M, M_59 = pt_st M qs0 5 xs1 → vp_in p1 20 ∧ (wpX7_setOf x5 M_59 (fun (r_74 : Int32) (M_74 : pt_M) => ∀ M_78 : pt_M, M_78 = pt_st M_74 (pt_s p1) 8 ((M_59 (pt_s p1) 8) ||| r_74) → wpX1_causeOf p2 p3 M_78 (fun (r_87 : Int32) (M_87 : pt_M) => vp_in r_87 12 ∧ (wpX7_setOf x5 M_87 (fun (r_94 : Int32) (M_94 : pt_M) => vp_in r_87 12 ∧ ∀ M_98 : pt_M, M_98 = pt_st M_94 4 (Int32.toNatClampNeg r_87) ((M_87 4 (Int32.toNatClampNeg r_87)) ||| r_94) → ∀ M_106 : pt_M, M_106 = pt_st M_98 1 4 ((M_98 1 4) + 1) → Q x5 M_106)))))
def wpX1_putTransition (p1 : Int32) (p2 : Int32) (p3 : Int32) (p4 : Int32) (M : pt_M) (Q : Int32 → pt_M → Prop) : Prop :=
  ∀ x5_4 : Int32, x5_4 = (M 1 4) → vp_in x5_4 30 ∧ (∀ M_18 : pt_M, M_18 = pt_st M (pt_t x5_4) 1 p1 → ∀ M_24 : pt_M, M_24 = pt_st M_18 (pt_t x5_4) 2 p2 → ∀ M_30 : pt_M, M_30 = pt_st M_24 (pt_t x5_4) 3 p3 → ∀ M_37 : pt_M, M_37 = pt_st M_30 (pt_t x5_4) 4 p4 → (¬ p4 = (-1) → wpX1_scopeOf p1 p4 M_37 (fun (r_56 : Int32) (M_56 : pt_M) => wjX1_putTransition_59 p1 p2 p3 p4 Q x5_4 (pt_t x5_4) r_56 M_56)) ∧ (p4 = (-1) → wjX1_putTransition_59 p1 p2 p3 p4 Q x5_4 (pt_t x5_4) (-1) M_37))
set_option maxHeartbeats 4000000 in
set_option maxRecDepth 100000 in
theorem mtX1_putTransition (l : Launch) (D : va_G) (cA : Nat → ClassId) (ad : Nat → Nat) (hI : pt_I ad) (sz : Nat) (p1 : Int32) (p2 : Int32) (p3 : Int32) (p4 : Int32) (M : pt_M) (Q : Int32 → pt_M → Prop) (hw : wpX1_putTransition p1 p2 p3 p4 M Q) : Met l yX1_putTransition (Cond.code yX1_putTransition cX1_putTransition 7 (some .int) :: lw_all) ({ frames := 2, cells := 0, slots := 0, locals := 44 } : Room) (va_Pc [.ref (ad 1), .int p1, .int p2, .int p3, .int p4] (pt_P D cA ad sz M)) (va_Qi Q (pt_B D cA ad) (pt_fr ad sz)) 0 0 (pt_fr ad sz) := by
  refine Met.ofW (cc := cX1_putTransition) (maxL := 7) (ret := (some .int)) (by decide) rfl ?_
  intro p e s m args below meth c s₁ B hml hv
  obtain ⟨rfl, hsz, hP, hK⟩ := hv
  have hx := B.exec
  have hb := B.bytes
  have hr := B.returns
  have hts0 := atoms_spec (ws := (Cond.code yX1_putTransition cX1_putTransition 7 (some .int) :: lw_all)) B.pre
  have hown : s.vm.findClass RX1 = some m.cls := findClass_of_methodNamed B.named
  have hlocks := B.notSynchronized
  subst hsz
  have F : pt_F p m c cX1_putTransition 7 s _ RX1 D cA := ⟨⟨hx, hb, hml, hown, fun w h => hts0 w (List.mem_cons_of_mem _ h)⟩, hK⟩
  have hD : ∀ M, va_D (pt_fr ad s.heap.size) (pt_W cA ad M) := pt_D hI (fun k h => Or.inl ⟨k, h, rfl⟩)
  have hS : va_S (pt_fr ad s.heap.size) s.heap s.heap [] := va_S.rf
  have hl := lv_entry ([.ref (ad 1), .int p1, .int p2, .int p3, .int p4]) (n := 7) (Nat.le_of_ble_eq_true rfl)
  rw [lg_entry_eq]
  generalize (lg_sl ([.ref (ad 1), .int p1, .int p2, .int p3, .int p4]) ++ List.replicate (7 - (lg_sl ([.ref (ad 1), .int p1, .int p2, .int p3, .int p4])).length) Slot.unset).toArray = ls at hl ⊢
  have hl : lv_has ls 7 [(0, .ref (ad 1)), (1, .int p1), (2, .int p2), (3, .int p3), (4, .int p4)] := hl
  have J59 : ∀ (x5 : Int32) (qs0 : Nat) (hqs0 : pt_kd qs0 = 6) (xs1 : Int32) (M : pt_M) (H : Heap) (locs : List Loc) (ls : Array Slot), wjX1_putTransition_59 p1 p2 p3 p4 Q x5 qs0 xs1 M → va_P D pt_cl (pt_W cA ad M) H → va_S (pt_fr ad s.heap.size) s.heap H locs → lv_has ls 7 [(0, .ref (ad 1)), (1, .int p1), (2, .int p2), (3, .int p3), (5, .int x5)] → W p l e (headSpec (Cond.code yX1_putTransition cX1_putTransition 7 (some .int) :: lw_all) ({ frames := 2, cells := 0, slots := 0, locals := 44 } : Room)).room s m ([.ref (ad 1), .int p1, .int p2, .int p3, .int p4] : List Value).toArray below meth c H locs 0 0 (MQ below (va_Qi Q (pt_B D cA ad) (pt_fr ad s.heap.size)) ([.ref (ad 1), .int p1, .int p2, .int p3, .int p4] : List Value).toArray s 0 0 (pt_fr ad s.heap.size)) (F0 m 59 ls [.int xs1, .ref (ad qs0)]) := by
    intro x5 qs0 hqs0 xs1 M H locs ls hw hP hS hl
    unfold wjX1_putTransition_59 at hw
    refine pt_put F hP hD hS (pt_c6 _ hqs0) (pt_l6 hqs0) inX6 tyX6 tyX6_ok nmX6 rfl 5 (by decide) kw_195 rfl rfl rfl rfl (Nat.le_of_ble_eq_true rfl) (pt_c6 _ hqs0) dX1_putTransition_59 (fun M_59 H locs eM_59 hP hS => ?_)
    replace hw := hw M_59 eM_59
    refine lv_aload_n hx hb dX1_putTransition_62 rfl (lv_at hl 0 rfl) ?_
    refine pt_get F hP (pt_c1 _ pt_k1) (pt_l1 pt_k1) inX1 rfl 0 (by decide) kw_222 rfl rfl dX1_putTransition_63 ?_
    refine lv_iload_n hx hb dX1_putTransition_66 rfl (lv_at hl 1 rfl) ?_
    have hv67 := hw.1
    replace hw := hw.2
    refine pt_alds F hP hv67 dX1_putTransition_67 ?_
    refine lv_dup hx hb dX1_putTransition_68 rfl ?_
    refine pt_get F hP (pt_c5 _ (pt_ks hv67)) (pt_l5 (pt_ks hv67)) inX5 rfl 8 (by decide) kw_154 rfl rfl dX1_putTransition_69 ?_
    refine lv_iload hx hb dX1_putTransition_72 (lv_at hl 4 rfl) ?_
    refine pt_calli (pt_runSN (n := 1) (As := [.int x5]) (rest := [.int (M_59 (pt_s p1) 8), .ref (ad (pt_s p1))]) F hP (mtX7_setOf l D cA ad hI _ x5 M_59 _ hw) kw_103 kw_101 kw_52 kw_102 ⟨by decide, by decide, by decide +kernel⟩ ⟨rfl, rfl, Nat.le_of_ble_eq_true rfl, Nat.le_of_ble_eq_true rfl⟩ rfl hl.1 rfl (Nat.le_of_ble_eq_true rfl) dX1_putTransition_74 ⟨Nat.zero_le _, Nat.zero_le _⟩) hS (fun _ h => h) (fun r_74 M_74 H locs hw hP hS _ _ => ?_)
    refine lv_ior hx hb dX1_putTransition_77 ?_
    refine pt_put F hP hD hS (pt_c5 _ (pt_ks hv67)) (pt_l5 (pt_ks hv67)) inX5 tyX5 tyX5_ok nmX5 rfl 8 (by decide) kw_154 rfl rfl rfl rfl (Nat.le_of_ble_eq_true rfl) (pt_c5 _ (pt_ks hv67)) dX1_putTransition_78 (fun M_78 H locs eM_78 hP hS => ?_)
    replace hw := hw M_78 eM_78
    refine lv_aload_n hx hb dX1_putTransition_81 rfl (lv_at hl 0 rfl) ?_
    refine pt_get F hP (pt_c1 _ pt_k1) (pt_l1 pt_k1) inX1 rfl 2 (by decide) kw_228 rfl rfl dX1_putTransition_82 ?_
    refine lv_iload_n hx hb dX1_putTransition_85 rfl (lv_at hl 2 rfl) ?_
    refine lv_iload_n hx hb dX1_putTransition_86 rfl (lv_at hl 3 rfl) ?_
    refine pt_calli (pt_runS (n := 2) (As := [.int p2, .int p3]) (rest := [.ref (ad 4)]) F hP (mtX1_causeOf l D cA ad hI _ p2 p3 M_78 _ hw) kw_678 kw_676 kw_53 kw_677 ⟨by decide, by decide, by decide +kernel⟩ ⟨rfl, rfl, Nat.le_of_ble_eq_true rfl, Nat.le_of_ble_eq_true rfl⟩ rfl hl.1 rfl (Nat.le_of_ble_eq_true rfl) dX1_putTransition_87 ⟨Nat.zero_le _, Nat.zero_le _⟩) hS (fun _ h => h) (fun r_87 M_87 H locs hw hP hS _ _ => ?_)
    refine lv_dup2_11 hx hb dX1_putTransition_90 rfl rfl ?_
    have hv91 := hw.1
    replace hw := hw.2
    refine pt_iald F hP pt_a4 hv91 dX1_putTransition_91 ?_
    refine lv_iload hx hb dX1_putTransition_92 (lv_at hl 4 rfl) ?_
    refine pt_calli (pt_runSN (n := 1) (As := [.int x5]) (rest := [.int (M_87 4 (Int32.toNatClampNeg r_87)), .int r_87, .ref (ad 4)]) F hP (mtX7_setOf l D cA ad hI _ x5 M_87 _ hw) kw_103 kw_101 kw_52 kw_102 ⟨by decide, by decide, by decide +kernel⟩ ⟨rfl, rfl, Nat.le_of_ble_eq_true rfl, Nat.le_of_ble_eq_true rfl⟩ rfl hl.1 rfl (Nat.le_of_ble_eq_true rfl) dX1_putTransition_94 ⟨Nat.zero_le _, Nat.zero_le _⟩) hS (fun _ h => h) (fun r_94 M_94 H locs hw hP hS _ _ => ?_)
    refine lv_ior hx hb dX1_putTransition_97 ?_
    have hv98 := hw.1
    replace hw := hw.2
    refine pt_iast F hP hD hS pt_a4 hv98 dX1_putTransition_98 (fun M_98 H locs eM_98 hP hS => ?_)
    replace hw := hw M_98 eM_98
    refine lv_aload_n hx hb dX1_putTransition_99 rfl (lv_at hl 0 rfl) ?_
    refine lv_dup hx hb dX1_putTransition_100 rfl ?_
    refine pt_get F hP (pt_c1 _ pt_k1) (pt_l1 pt_k1) inX1 rfl 4 (by decide) kw_233 rfl rfl dX1_putTransition_101 ?_
    refine lv_iconst (v := 1) hx hb dX1_putTransition_104 (by decide) ?_
    refine lv_iadd hx hb dX1_putTransition_105 ?_
    refine pt_put F hP hD hS (pt_c1 _ pt_k1) (pt_l1 pt_k1) inX1 tyX1 tyX1_ok nmX1 rfl 4 (by decide) kw_233 rfl rfl rfl rfl (Nat.le_of_ble_eq_true rfl) (pt_c1 _ pt_k1) dX1_putTransition_106 (fun M_106 H locs eM_106 hP hS => ?_)
    replace hw := hw M_106 eM_106
    refine lv_iload hx hb dX1_putTransition_109 (lv_at hl 4 rfl) ?_
    exact W.iret (v := x5) hx hb hr (fun t ht hW => ⟨⟨x5, M_106, rfl, hw, by unfold pt_B; rw [ht]; exact hP⟩, hS.F ht⟩) hS.2.2 dX1_putTransition_111
  unfold wpX1_putTransition at hw
  refine lv_aload_n hx hb dX1_putTransition_0 rfl (lv_at hl 0 rfl) ?_
  refine pt_get F hP (pt_c1 _ pt_k1) (pt_l1 pt_k1) inX1 rfl 4 (by decide) kw_233 rfl rfl dX1_putTransition_1 ?_
  refine lv_topi (fun x5_4 ex5_4 => ?_)
  replace hw := hw x5_4 ex5_4
  refine lv_istore (lv' := [(5, .int x5_4), (0, .ref (ad 1)), (1, .int p1), (2, .int p2), (3, .int p3), (4, .int p4)]) hx hb dX1_putTransition_4 hl (by decide) rfl (fun ls hl => ?_)
  refine lv_aload_n hx hb dX1_putTransition_6 rfl (lv_at hl 1 rfl) ?_
  refine pt_get F hP (pt_c1 _ pt_k1) (pt_l1 pt_k1) inX1 rfl 1 (by decide) kw_225 rfl rfl dX1_putTransition_7 ?_
  refine lv_iload hx hb dX1_putTransition_10 (lv_at hl 0 rfl) ?_
  have hv12 := hw.1
  replace hw := hw.2
  refine pt_aldt F hP hv12 dX1_putTransition_12 ?_
  refine lv_astore (lv' := [(6, .ref (ad (pt_t x5_4))), (5, .int x5_4), (0, .ref (ad 1)), (1, .int p1), (2, .int p2), (3, .int p3), (4, .int p4)]) hx hb dX1_putTransition_13 hl (by decide) rfl (fun ls hl => ?_)
  refine lv_aload hx hb dX1_putTransition_15 (lv_at hl 0 rfl) ?_
  refine lv_iload_n hx hb dX1_putTransition_17 rfl (lv_at hl 3 rfl) ?_
  refine pt_put F hP hD hS (pt_c6 _ (pt_kt hv12)) (pt_l6 (pt_kt hv12)) inX6 tyX6 tyX6_ok nmX6 rfl 1 (by decide) kw_185 rfl rfl rfl rfl (Nat.le_of_ble_eq_true rfl) (pt_c6 _ (pt_kt hv12)) dX1_putTransition_18 (fun M_18 H locs eM_18 hP hS => ?_)
  replace hw := hw M_18 eM_18
  refine lv_aload hx hb dX1_putTransition_21 (lv_at hl 0 rfl) ?_
  refine lv_iload_n hx hb dX1_putTransition_23 rfl (lv_at hl 4 rfl) ?_
  refine pt_put F hP hD hS (pt_c6 _ (pt_kt hv12)) (pt_l6 (pt_kt hv12)) inX6 tyX6 tyX6_ok nmX6 rfl 2 (by decide) kw_187 rfl rfl rfl rfl (Nat.le_of_ble_eq_true rfl) (pt_c6 _ (pt_kt hv12)) dX1_putTransition_24 (fun M_24 H locs eM_24 hP hS => ?_)
  replace hw := hw M_24 eM_24
  refine lv_aload hx hb dX1_putTransition_27 (lv_at hl 0 rfl) ?_
  refine lv_iload_n hx hb dX1_putTransition_29 rfl (lv_at hl 5 rfl) ?_
  refine pt_put F hP hD hS (pt_c6 _ (pt_kt hv12)) (pt_l6 (pt_kt hv12)) inX6 tyX6 tyX6_ok nmX6 rfl 3 (by decide) kw_189 rfl rfl rfl rfl (Nat.le_of_ble_eq_true rfl) (pt_c6 _ (pt_kt hv12)) dX1_putTransition_30 (fun M_30 H locs eM_30 hP hS => ?_)
  replace hw := hw M_30 eM_30
  refine lv_aload hx hb dX1_putTransition_33 (lv_at hl 0 rfl) ?_
  refine lv_iload hx hb dX1_putTransition_35 (lv_at hl 6 rfl) ?_
  refine pt_put F hP hD hS (pt_c6 _ (pt_kt hv12)) (pt_l6 (pt_kt hv12)) inX6 tyX6 tyX6_ok nmX6 rfl 4 (by decide) kw_192 rfl rfl rfl rfl (Nat.le_of_ble_eq_true rfl) (pt_c6 _ (pt_kt hv12)) dX1_putTransition_37 (fun M_37 H locs eM_37 hP hS => ?_)
  replace hw := hw M_37 eM_37
  refine lv_aload hx hb dX1_putTransition_40 (lv_at hl 0 rfl) ?_
  refine lv_iload hx hb dX1_putTransition_42 (lv_at hl 6 rfl) ?_
  refine lv_iconst (v := (-1)) hx hb dX1_putTransition_44 (by decide) ?_
  refine lv_icmp_ne (tgt := 52) hx hb dX1_putTransition_45 (by decide) (fun hc45 => ?_) (fun hc45 => ?_)
  · replace hw := hw.1 hc45
    refine lv_aload_n hx hb dX1_putTransition_52 rfl (lv_at hl 2 rfl) ?_
    refine lv_iload_n hx hb dX1_putTransition_53 rfl (lv_at hl 3 rfl) ?_
    refine lv_iload hx hb dX1_putTransition_54 (lv_at hl 6 rfl) ?_
    refine pt_calli (pt_runV (n := 2) (As := [.int p1, .int p4]) (rest := [.ref (ad (pt_t x5_4))]) F hP (pt_c1 _ pt_k1) (pt_l1 pt_k1) rfl (mtX1_scopeOf l D cA ad hI _ p1 p4 M_37 _ hw) kw_675 kw_672 kw_53 kw_674 kw_5 ⟨by decide, by decide, by decide +kernel⟩ ⟨rfl, rfl, Nat.le_of_ble_eq_true rfl, Nat.le_of_ble_eq_true rfl⟩ rfl hl.1 rfl (Nat.le_of_ble_eq_true rfl) dX1_putTransition_56 ⟨Nat.zero_le _, Nat.zero_le _⟩) hS (fun _ h => h) (fun r_56 M_56 H locs hw hP hS _ _ => ?_)
    exact J59 x5_4 (pt_t x5_4) (pt_kt hv12) r_56 M_56 _ _ _ hw hP hS (lv_sub hl [2, 3, 4, 5, 1] rfl)
  · replace hw := hw.2 hc45
    refine lv_iconst (v := (-1)) hx hb dX1_putTransition_48 (by decide) ?_
    refine lv_goto (tgt := 59) hx hb dX1_putTransition_49 (by decide) ?_
    exact J59 x5_4 (pt_t x5_4) (pt_kt hv12) (-1) M_37 _ _ _ hw hP hS (lv_sub hl [2, 3, 4, 5, 1] rfl)
-- ===== X1_filled
def wjX1_filled_32 (p1 : Int32) (Q : Int32 → pt_M → Prop) (R4 : Int32 → Int32 → pt_M → Prop) (x2 : Int32) (x3 : Int32) (M : pt_M) : Prop :=
  ∀ x3_32 : Int32, x3_32 = x3 + 1 → R4 x2 x3_32 M
def lbX1_filled_4 (p1 : Int32) (Q : Int32 → pt_M → Prop)  (R4 : Int32 → Int32 → pt_M → Prop) (x2 : Int32) (x3 : Int32) (M : pt_M) : Prop :=
  ((M 1 3) ≤ x3 → Q x2 M) ∧ (¬ (M 1 3) ≤ x3 → wpX7_has x2 x3 M (fun (r_14 : Int32) (M_14 : pt_M) => (r_14 = 0 → wjX1_filled_32 p1 Q R4 x2 x3 M_14) ∧ (¬ r_14 = 0 → vp_in x3 20 ∧ (∀ x2_31 : Int32, x2_31 = (x2 ||| (M_14 (pt_s x3) 6)) → wjX1_filled_32 p1 Q R4 x2_31 x3 M_14))))
def lpX1_filled_4 (p1 : Int32) (Q : Int32 → pt_M → Prop)  : Nat → Int32 → Int32 → pt_M → Prop
  | 0 => fun _ _ _ => False
  | n + 1 => fun x2 x3 M => lbX1_filled_4 p1 Q (lpX1_filled_4 p1 Q n) x2 x3 M
def wpX1_filled (p1 : Int32) (M : pt_M) (Q : Int32 → pt_M → Prop) : Prop :=
  ∃ n : Nat, lpX1_filled_4 p1 Q n p1 0 M
set_option maxHeartbeats 4000000 in
set_option maxRecDepth 100000 in
theorem mtX1_filled (l : Launch) (D : va_G) (cA : Nat → ClassId) (ad : Nat → Nat) (hI : pt_I ad) (sz : Nat) (p1 : Int32) (M : pt_M) (Q : Int32 → pt_M → Prop) (hw : wpX1_filled p1 M Q) : Met l yX1_filled (Cond.code yX1_filled cX1_filled 4 (some .int) :: lw_all) ({ frames := 1, cells := 0, slots := 0, locals := 21 } : Room) (va_Pc [.ref (ad 1), .int p1] (pt_P D cA ad sz M)) (va_Qi Q (pt_B D cA ad) (pt_fr ad sz)) 0 0 (pt_fr ad sz) := by
  refine Met.ofW (cc := cX1_filled) (maxL := 4) (ret := (some .int)) (by decide) rfl ?_
  intro p e s m args below meth c s₁ B hml hv
  obtain ⟨rfl, hsz, hP, hK⟩ := hv
  have hx := B.exec
  have hb := B.bytes
  have hr := B.returns
  have hts0 := atoms_spec (ws := (Cond.code yX1_filled cX1_filled 4 (some .int) :: lw_all)) B.pre
  have hown : s.vm.findClass RX1 = some m.cls := findClass_of_methodNamed B.named
  have hlocks := B.notSynchronized
  subst hsz
  have F : pt_F p m c cX1_filled 4 s _ RX1 D cA := ⟨⟨hx, hb, hml, hown, fun w h => hts0 w (List.mem_cons_of_mem _ h)⟩, hK⟩
  have hD : ∀ M, va_D (pt_fr ad s.heap.size) (pt_W cA ad M) := pt_D hI (fun k h => Or.inl ⟨k, h, rfl⟩)
  have hS : va_S (pt_fr ad s.heap.size) s.heap s.heap [] := va_S.rf
  have hl := lv_entry ([.ref (ad 1), .int p1]) (n := 4) (Nat.le_of_ble_eq_true rfl)
  rw [lg_entry_eq]
  generalize (lg_sl ([.ref (ad 1), .int p1]) ++ List.replicate (4 - (lg_sl ([.ref (ad 1), .int p1])).length) Slot.unset).toArray = ls at hl ⊢
  have hl : lv_has ls 4 [(0, .ref (ad 1)), (1, .int p1)] := hl
  have L4 : ∀ (n4 : Nat) (x2 : Int32) (x3 : Int32) (M : pt_M) (H : Heap) (locs : List Loc) (ls : Array Slot), lpX1_filled_4 p1 Q n4 x2 x3 M → va_P D pt_cl (pt_W cA ad M) H → va_S (pt_fr ad s.heap.size) s.heap H locs → lv_has ls 4 [(0, .ref (ad 1)), (2, .int x2), (3, .int x3)] → W p l e (headSpec (Cond.code yX1_filled cX1_filled 4 (some .int) :: lw_all) ({ frames := 1, cells := 0, slots := 0, locals := 21 } : Room)).room s m ([.ref (ad 1), .int p1] : List Value).toArray below meth c H locs 0 0 (MQ below (va_Qi Q (pt_B D cA ad) (pt_fr ad s.heap.size)) ([.ref (ad 1), .int p1] : List Value).toArray s 0 0 (pt_fr ad s.heap.size)) (F0 m 4 ls []) := by
    intro n4
    induction n4 with
    | zero => intro x2 x3 M H locs ls hw; exact hw.elim
    | succ n4 ih4 =>
      have J32 : ∀ (x2 : Int32) (x3 : Int32) (M : pt_M) (H : Heap) (locs : List Loc) (ls : Array Slot), wjX1_filled_32 p1 Q (lpX1_filled_4 p1 Q n4) x2 x3 M → va_P D pt_cl (pt_W cA ad M) H → va_S (pt_fr ad s.heap.size) s.heap H locs → lv_has ls 4 [(0, .ref (ad 1)), (2, .int x2), (3, .int x3)] → W p l e (headSpec (Cond.code yX1_filled cX1_filled 4 (some .int) :: lw_all) ({ frames := 1, cells := 0, slots := 0, locals := 21 } : Room)).room s m ([.ref (ad 1), .int p1] : List Value).toArray below meth c H locs 0 0 (MQ below (va_Qi Q (pt_B D cA ad) (pt_fr ad s.heap.size)) ([.ref (ad 1), .int p1] : List Value).toArray s 0 0 (pt_fr ad s.heap.size)) (F0 m 32 ls []) := by
        intro x2 x3 M H locs ls hw hP hS hl
        unfold wjX1_filled_32 at hw
        obtain ⟨x3_32, ex3_32⟩ : ∃ y : Int32, y = x3 + 1 := ⟨_, rfl⟩
        replace hw := hw x3_32 ex3_32
        refine lv_iinc (v := x3_32) (lv' := [(3, .int x3_32), (0, .ref (ad 1)), (2, .int x2)]) hx hb dX1_filled_32 hl (k := 2) rfl (by rw [ex3_32]; rfl) (by decide) rfl (fun ls hl => ?_)
        refine lv_goto (tgt := 4) hx hb dX1_filled_35 (by decide) ?_
        exact ih4 x2 x3_32 M _ _ _ hw hP hS (lv_sub hl [1, 2, 0] rfl)
      intro x2 x3 M H locs ls hw hP hS hl
      replace hw : lbX1_filled_4 p1 Q (lpX1_filled_4 p1 Q n4) x2 x3 M := hw
      unfold lbX1_filled_4 at hw
      refine lv_iload_n hx hb dX1_filled_4 rfl (lv_at hl 2 rfl) ?_
      refine lv_aload_n hx hb dX1_filled_5 rfl (lv_at hl 0 rfl) ?_
      refine pt_get F hP (pt_c1 _ pt_k1) (pt_l1 pt_k1) inX1 rfl 3 (by decide) kw_230 rfl rfl dX1_filled_6 ?_
      refine lv_icmp_ge (tgt := 38) hx hb dX1_filled_9 (by decide) (fun hc9 => ?_) (fun hc9 => ?_)
      · replace hw := hw.1 hc9
        refine lv_iload_n hx hb dX1_filled_38 rfl (lv_at hl 1 rfl) ?_
        exact W.iret (v := x2) hx hb hr (fun t ht hW => ⟨⟨x2, M, rfl, hw, by unfold pt_B; rw [ht]; exact hP⟩, hS.F ht⟩) hS.2.2 dX1_filled_39
      · replace hw := hw.2 hc9
        refine lv_iload_n hx hb dX1_filled_12 rfl (lv_at hl 1 rfl) ?_
        refine lv_iload_n hx hb dX1_filled_13 rfl (lv_at hl 2 rfl) ?_
        refine pt_calli (pt_runSN (n := 2) (As := [.int x2, .int x3]) (rest := []) F hP (mtX7_has l D cA ad hI _ x2 x3 M _ hw) kw_449 kw_618 kw_52 kw_448 ⟨by decide, by decide, by decide +kernel⟩ ⟨rfl, rfl, Nat.le_of_ble_eq_true rfl, Nat.le_of_ble_eq_true rfl⟩ rfl hl.1 rfl (Nat.le_of_ble_eq_true rfl) dX1_filled_14 ⟨Nat.zero_le _, Nat.zero_le _⟩) hS (fun _ h => h) (fun r_14 M_14 H locs hw hP hS _ _ => ?_)
        refine lv_if_eq (tgt := 32) hx hb dX1_filled_17 (by decide) (fun hc17 => ?_) (fun hc17 => ?_)
        · replace hw := hw.1 hc17
          exact J32 x2 x3 M_14 _ _ _ hw hP hS (lv_sub hl [0, 1, 2] rfl)
        · replace hw := hw.2 hc17
          refine lv_iload_n hx hb dX1_filled_20 rfl (lv_at hl 1 rfl) ?_
          refine lv_aload_n hx hb dX1_filled_21 rfl (lv_at hl 0 rfl) ?_
          refine pt_get F hP (pt_c1 _ pt_k1) (pt_l1 pt_k1) inX1 rfl 0 (by decide) kw_222 rfl rfl dX1_filled_22 ?_
          refine lv_iload_n hx hb dX1_filled_25 rfl (lv_at hl 2 rfl) ?_
          have hv26 := hw.1
          replace hw := hw.2
          refine pt_alds F hP hv26 dX1_filled_26 ?_
          refine pt_get F hP (pt_c5 _ (pt_ks hv26)) (pt_l5 (pt_ks hv26)) inX5 rfl 6 (by decide) kw_150 rfl rfl dX1_filled_27 ?_
          refine lv_ior hx hb dX1_filled_30 ?_
          refine lv_topi (fun x2_31 ex2_31 => ?_)
          replace hw := hw x2_31 ex2_31
          refine lv_istore_n (lv' := [(2, .int x2_31), (0, .ref (ad 1)), (3, .int x3)]) hx hb dX1_filled_31 rfl hl (by decide) rfl (fun ls hl => ?_)
          exact J32 x2_31 x3 M_14 _ _ _ hw hP hS (lv_sub hl [1, 0, 2] rfl)
  unfold wpX1_filled at hw
  refine lv_iload_n hx hb dX1_filled_0 rfl (lv_at hl 1 rfl) ?_
  refine lv_istore_n (lv' := [(2, .int p1), (0, .ref (ad 1)), (1, .int p1)]) hx hb dX1_filled_1 rfl hl (by decide) rfl (fun ls hl => ?_)
  refine lv_iconst (v := 0) hx hb dX1_filled_2 (by decide) ?_
  refine lv_istore_n (lv' := [(3, .int 0), (2, .int p1), (0, .ref (ad 1)), (1, .int p1)]) hx hb dX1_filled_3 rfl hl (by decide) rfl (fun ls hl => ?_)
  obtain ⟨n_, hw⟩ := hw
  exact L4 n_ p1 0 M _ _ _ hw hP hS (lv_sub hl [2, 1, 0] rfl)
-- ===== X1_partsAside
def wjX1_partsAside_53 (p1 : Int32) (p2 : Int32) (Q : Int32 → pt_M → Prop) (R19 : Int32 → Int32 → pt_M → Prop) (x3 : Int32) (x4 : Int32) (M : pt_M) : Prop :=
  ∀ x4_53 : Int32, x4_53 = x4 + 1 → R19 x3 x4_53 M
def lbX1_partsAside_19 (p1 : Int32) (p2 : Int32) (Q : Int32 → pt_M → Prop)  (R19 : Int32 → Int32 → pt_M → Prop) (x3 : Int32) (x4 : Int32) (M : pt_M) : Prop :=
  ((M 1 3) ≤ x4 → Q x3 M) ∧ (¬ (M 1 3) ≤ x4 → vp_in x4 20 ∧ ((((M (pt_s x4) 7) &&& p2) = 0 → wjX1_partsAside_53 p1 p2 Q R19 x3 x4 M) ∧ (¬ ((M (pt_s x4) 7) &&& p2) = 0 → wpX7_setOf x4 M (fun (r_46 : Int32) (M_46 : pt_M) => ∀ x3_52 : Int32, x3_52 = (x3 &&& (r_46 ^^^ (-1))) → wjX1_partsAside_53 p1 p2 Q R19 x3_52 x4 M_46))))
def lpX1_partsAside_19 (p1 : Int32) (p2 : Int32) (Q : Int32 → pt_M → Prop)  : Nat → Int32 → Int32 → pt_M → Prop
  | 0 => fun _ _ _ => False
  | n + 1 => fun x3 x4 M => lbX1_partsAside_19 p1 p2 Q (lpX1_partsAside_19 p1 p2 Q n) x3 x4 M
def wpX1_partsAside (p1 : Int32) (p2 : Int32) (M : pt_M) (Q : Int32 → pt_M → Prop) : Prop :=
  vp_in p1 20 ∧ (∀ x3_13 : Int32, x3_13 = ((M (pt_s p1) 5) &&& (p2 ^^^ (-1))) → ∀ x4_17 : Int32, x4_17 = (p1 + 1) → ∃ n : Nat, lpX1_partsAside_19 p1 p2 Q n x3_13 x4_17 M)
set_option maxHeartbeats 4000000 in
set_option maxRecDepth 100000 in
theorem mtX1_partsAside (l : Launch) (D : va_G) (cA : Nat → ClassId) (ad : Nat → Nat) (hI : pt_I ad) (sz : Nat) (p1 : Int32) (p2 : Int32) (M : pt_M) (Q : Int32 → pt_M → Prop) (hw : wpX1_partsAside p1 p2 M Q) : Met l yX1_partsAside (Cond.code yX1_partsAside cX1_partsAside 5 (some .int) :: lw_all) ({ frames := 1, cells := 0, slots := 0, locals := 20 } : Room) (va_Pc [.ref (ad 1), .int p1, .int p2] (pt_P D cA ad sz M)) (va_Qi Q (pt_B D cA ad) (pt_fr ad sz)) 0 0 (pt_fr ad sz) := by
  refine Met.ofW (cc := cX1_partsAside) (maxL := 5) (ret := (some .int)) (by decide) rfl ?_
  intro p e s m args below meth c s₁ B hml hv
  obtain ⟨rfl, hsz, hP, hK⟩ := hv
  have hx := B.exec
  have hb := B.bytes
  have hr := B.returns
  have hts0 := atoms_spec (ws := (Cond.code yX1_partsAside cX1_partsAside 5 (some .int) :: lw_all)) B.pre
  have hown : s.vm.findClass RX1 = some m.cls := findClass_of_methodNamed B.named
  have hlocks := B.notSynchronized
  subst hsz
  have F : pt_F p m c cX1_partsAside 5 s _ RX1 D cA := ⟨⟨hx, hb, hml, hown, fun w h => hts0 w (List.mem_cons_of_mem _ h)⟩, hK⟩
  have hD : ∀ M, va_D (pt_fr ad s.heap.size) (pt_W cA ad M) := pt_D hI (fun k h => Or.inl ⟨k, h, rfl⟩)
  have hS : va_S (pt_fr ad s.heap.size) s.heap s.heap [] := va_S.rf
  have hl := lv_entry ([.ref (ad 1), .int p1, .int p2]) (n := 5) (Nat.le_of_ble_eq_true rfl)
  rw [lg_entry_eq]
  generalize (lg_sl ([.ref (ad 1), .int p1, .int p2]) ++ List.replicate (5 - (lg_sl ([.ref (ad 1), .int p1, .int p2])).length) Slot.unset).toArray = ls at hl ⊢
  have hl : lv_has ls 5 [(0, .ref (ad 1)), (1, .int p1), (2, .int p2)] := hl
  have L19 : ∀ (n19 : Nat) (x3 : Int32) (x4 : Int32) (M : pt_M) (H : Heap) (locs : List Loc) (ls : Array Slot), lpX1_partsAside_19 p1 p2 Q n19 x3 x4 M → va_P D pt_cl (pt_W cA ad M) H → va_S (pt_fr ad s.heap.size) s.heap H locs → lv_has ls 5 [(0, .ref (ad 1)), (2, .int p2), (3, .int x3), (4, .int x4)] → W p l e (headSpec (Cond.code yX1_partsAside cX1_partsAside 5 (some .int) :: lw_all) ({ frames := 1, cells := 0, slots := 0, locals := 20 } : Room)).room s m ([.ref (ad 1), .int p1, .int p2] : List Value).toArray below meth c H locs 0 0 (MQ below (va_Qi Q (pt_B D cA ad) (pt_fr ad s.heap.size)) ([.ref (ad 1), .int p1, .int p2] : List Value).toArray s 0 0 (pt_fr ad s.heap.size)) (F0 m 19 ls []) := by
    intro n19
    induction n19 with
    | zero => intro x3 x4 M H locs ls hw; exact hw.elim
    | succ n19 ih19 =>
      have J53 : ∀ (x3 : Int32) (x4 : Int32) (M : pt_M) (H : Heap) (locs : List Loc) (ls : Array Slot), wjX1_partsAside_53 p1 p2 Q (lpX1_partsAside_19 p1 p2 Q n19) x3 x4 M → va_P D pt_cl (pt_W cA ad M) H → va_S (pt_fr ad s.heap.size) s.heap H locs → lv_has ls 5 [(0, .ref (ad 1)), (2, .int p2), (3, .int x3), (4, .int x4)] → W p l e (headSpec (Cond.code yX1_partsAside cX1_partsAside 5 (some .int) :: lw_all) ({ frames := 1, cells := 0, slots := 0, locals := 20 } : Room)).room s m ([.ref (ad 1), .int p1, .int p2] : List Value).toArray below meth c H locs 0 0 (MQ below (va_Qi Q (pt_B D cA ad) (pt_fr ad s.heap.size)) ([.ref (ad 1), .int p1, .int p2] : List Value).toArray s 0 0 (pt_fr ad s.heap.size)) (F0 m 53 ls []) := by
        intro x3 x4 M H locs ls hw hP hS hl
        unfold wjX1_partsAside_53 at hw
        obtain ⟨x4_53, ex4_53⟩ : ∃ y : Int32, y = x4 + 1 := ⟨_, rfl⟩
        replace hw := hw x4_53 ex4_53
        refine lv_iinc (v := x4_53) (lv' := [(4, .int x4_53), (0, .ref (ad 1)), (2, .int p2), (3, .int x3)]) hx hb dX1_partsAside_53 hl (k := 3) rfl (by rw [ex4_53]; rfl) (by decide) rfl (fun ls hl => ?_)
        refine lv_goto (tgt := 19) hx hb dX1_partsAside_56 (by decide) ?_
        exact ih19 x3 x4_53 M _ _ _ hw hP hS (lv_sub hl [1, 2, 3, 0] rfl)
      intro x3 x4 M H locs ls hw hP hS hl
      replace hw : lbX1_partsAside_19 p1 p2 Q (lpX1_partsAside_19 p1 p2 Q n19) x3 x4 M := hw
      unfold lbX1_partsAside_19 at hw
      refine lv_iload hx hb dX1_partsAside_19 (lv_at hl 3 rfl) ?_
      refine lv_aload_n hx hb dX1_partsAside_21 rfl (lv_at hl 0 rfl) ?_
      refine pt_get F hP (pt_c1 _ pt_k1) (pt_l1 pt_k1) inX1 rfl 3 (by decide) kw_230 rfl rfl dX1_partsAside_22 ?_
      refine lv_icmp_ge (tgt := 59) hx hb dX1_partsAside_25 (by decide) (fun hc25 => ?_) (fun hc25 => ?_)
      · replace hw := hw.1 hc25
        refine lv_iload_n hx hb dX1_partsAside_59 rfl (lv_at hl 2 rfl) ?_
        exact W.iret (v := x3) hx hb hr (fun t ht hW => ⟨⟨x3, M, rfl, hw, by unfold pt_B; rw [ht]; exact hP⟩, hS.F ht⟩) hS.2.2 dX1_partsAside_60
      · replace hw := hw.2 hc25
        refine lv_aload_n hx hb dX1_partsAside_28 rfl (lv_at hl 0 rfl) ?_
        refine pt_get F hP (pt_c1 _ pt_k1) (pt_l1 pt_k1) inX1 rfl 0 (by decide) kw_222 rfl rfl dX1_partsAside_29 ?_
        refine lv_iload hx hb dX1_partsAside_32 (lv_at hl 3 rfl) ?_
        have hv34 := hw.1
        replace hw := hw.2
        refine pt_alds F hP hv34 dX1_partsAside_34 ?_
        refine pt_get F hP (pt_c5 _ (pt_ks hv34)) (pt_l5 (pt_ks hv34)) inX5 rfl 7 (by decide) kw_152 rfl rfl dX1_partsAside_35 ?_
        refine lv_iload_n hx hb dX1_partsAside_38 rfl (lv_at hl 1 rfl) ?_
        refine lv_iand hx hb dX1_partsAside_39 ?_
        refine lv_if_eq (tgt := 53) hx hb dX1_partsAside_40 (by decide) (fun hc40 => ?_) (fun hc40 => ?_)
        · replace hw := hw.1 hc40
          exact J53 x3 x4 M _ _ _ hw hP hS (lv_sub hl [0, 1, 2, 3] rfl)
        · replace hw := hw.2 hc40
          refine lv_iload_n hx hb dX1_partsAside_43 rfl (lv_at hl 2 rfl) ?_
          refine lv_iload hx hb dX1_partsAside_44 (lv_at hl 3 rfl) ?_
          refine pt_calli (pt_runSN (n := 1) (As := [.int x4]) (rest := [.int x3]) F hP (mtX7_setOf l D cA ad hI _ x4 M _ hw) kw_103 kw_101 kw_52 kw_102 ⟨by decide, by decide, by decide +kernel⟩ ⟨rfl, rfl, Nat.le_of_ble_eq_true rfl, Nat.le_of_ble_eq_true rfl⟩ rfl hl.1 rfl (Nat.le_of_ble_eq_true rfl) dX1_partsAside_46 ⟨Nat.zero_le _, Nat.zero_le _⟩) hS (fun _ h => h) (fun r_46 M_46 H locs hw hP hS _ _ => ?_)
          refine lv_iconst (v := (-1)) hx hb dX1_partsAside_49 (by decide) ?_
          refine lv_ixor hx hb dX1_partsAside_50 ?_
          refine lv_iand hx hb dX1_partsAside_51 ?_
          refine lv_topi (fun x3_52 ex3_52 => ?_)
          replace hw := hw x3_52 ex3_52
          refine lv_istore_n (lv' := [(3, .int x3_52), (0, .ref (ad 1)), (2, .int p2), (4, .int x4)]) hx hb dX1_partsAside_52 rfl hl (by decide) rfl (fun ls hl => ?_)
          exact J53 x3_52 x4 M_46 _ _ _ hw hP hS (lv_sub hl [1, 2, 0, 3] rfl)
  unfold wpX1_partsAside at hw
  refine lv_aload_n hx hb dX1_partsAside_0 rfl (lv_at hl 0 rfl) ?_
  refine pt_get F hP (pt_c1 _ pt_k1) (pt_l1 pt_k1) inX1 rfl 0 (by decide) kw_222 rfl rfl dX1_partsAside_1 ?_
  refine lv_iload_n hx hb dX1_partsAside_4 rfl (lv_at hl 1 rfl) ?_
  have hv5 := hw.1
  replace hw := hw.2
  refine pt_alds F hP hv5 dX1_partsAside_5 ?_
  refine pt_get F hP (pt_c5 _ (pt_ks hv5)) (pt_l5 (pt_ks hv5)) inX5 rfl 5 (by decide) kw_148 rfl rfl dX1_partsAside_6 ?_
  refine lv_iload_n hx hb dX1_partsAside_9 rfl (lv_at hl 2 rfl) ?_
  refine lv_iconst (v := (-1)) hx hb dX1_partsAside_10 (by decide) ?_
  refine lv_ixor hx hb dX1_partsAside_11 ?_
  refine lv_iand hx hb dX1_partsAside_12 ?_
  refine lv_topi (fun x3_13 ex3_13 => ?_)
  replace hw := hw x3_13 ex3_13
  refine lv_istore_n (lv' := [(3, .int x3_13), (0, .ref (ad 1)), (1, .int p1), (2, .int p2)]) hx hb dX1_partsAside_13 rfl hl (by decide) rfl (fun ls hl => ?_)
  refine lv_iload_n hx hb dX1_partsAside_14 rfl (lv_at hl 2 rfl) ?_
  refine lv_iconst (v := 1) hx hb dX1_partsAside_15 (by decide) ?_
  refine lv_iadd hx hb dX1_partsAside_16 ?_
  refine lv_topi (fun x4_17 ex4_17 => ?_)
  replace hw := hw x4_17 ex4_17
  refine lv_istore (lv' := [(4, .int x4_17), (3, .int x3_13), (0, .ref (ad 1)), (1, .int p1), (2, .int p2)]) hx hb dX1_partsAside_17 hl (by decide) rfl (fun ls hl => ?_)
  obtain ⟨n_, hw⟩ := hw
  exact L19 n_ x3_13 x4_17 M _ _ _ hw hP hS (lv_sub hl [2, 4, 1, 0] rfl)
-- ===== X1_enteredInto
def wjX1_enteredInto_85 (p1 : Int32) (p2 : Int32) (Q : Int32 → pt_M → Prop) (R10 : Int32 → Int32 → Int32 → pt_M → Prop) (x3 : Int32) (x4 : Int32) (x5 : Int32) (M : pt_M) : Prop :=
  ∀ x5_85 : Int32, x5_85 = x5 + 1 → R10 x3 x4 x5_85 M
def lbX1_enteredInto_10 (p1 : Int32) (p2 : Int32) (Q : Int32 → pt_M → Prop)  (R10 : Int32 → Int32 → Int32 → pt_M → Prop) (x3 : Int32) (x4 : Int32) (x5 : Int32) (M : pt_M) : Prop :=
  ((M 1 3) ≤ x5 → wpX1_filled x4 M (fun (r_95 : Int32) (M_95 : pt_M) => Q (x3 ||| r_95) M_95)) ∧ (¬ (M 1 3) ≤ x5 → vp_in p2 20 ∧ (wpX7_has (M (pt_s p2) 7) x5 M (fun (r_30 : Int32) (M_30 : pt_M) => (r_30 = 0 → wjX1_enteredInto_85 p1 p2 Q R10 x3 x4 x5 M_30) ∧ (¬ r_30 = 0 → vp_in x5 20 ∧ ((((M_30 (pt_s x5) 7) &&& p1) = 0 → wjX1_enteredInto_85 p1 p2 Q R10 x3 x4 x5 M_30) ∧ (¬ ((M_30 (pt_s x5) 7) &&& p1) = 0 → wpX7_setOf x5 M_30 (fun (r_54 : Int32) (M_54 : pt_M) => ∀ x3_58 : Int32, x3_58 = (x3 ||| r_54) → vp_in x5 20 ∧ ((¬ (M_54 (pt_s x5) 2) = 1 → wjX1_enteredInto_85 p1 p2 Q R10 x3_58 x4 x5 M_54) ∧ ((M_54 (pt_s x5) 2) = 1 → wpX1_partsAside x5 p1 M_54 (fun (r_79 : Int32) (M_79 : pt_M) => ∀ x4_83 : Int32, x4_83 = (x4 ||| r_79) → wjX1_enteredInto_85 p1 p2 Q R10 x3_58 x4_83 x5 M_79))))))))))
def lpX1_enteredInto_10 (p1 : Int32) (p2 : Int32) (Q : Int32 → pt_M → Prop)  : Nat → Int32 → Int32 → Int32 → pt_M → Prop
  | 0 => fun _ _ _ _ => False
  | n + 1 => fun x3 x4 x5 M => lbX1_enteredInto_10 p1 p2 Q (lpX1_enteredInto_10 p1 p2 Q n) x3 x4 x5 M
def wpX1_enteredInto (p1 : Int32) (p2 : Int32) (M : pt_M) (Q : Int32 → pt_M → Prop) : Prop :=
  ∀ x5_8 : Int32, x5_8 = (p2 + 1) → ∃ n : Nat, lpX1_enteredInto_10 p1 p2 Q n 0 p1 x5_8 M
set_option maxHeartbeats 4000000 in
set_option maxRecDepth 100000 in
theorem mtX1_enteredInto (l : Launch) (D : va_G) (cA : Nat → ClassId) (ad : Nat → Nat) (hI : pt_I ad) (sz : Nat) (p1 : Int32) (p2 : Int32) (M : pt_M) (Q : Int32 → pt_M → Prop) (hw : wpX1_enteredInto p1 p2 M Q) : Met l yX1_enteredInto (Cond.code yX1_enteredInto cX1_enteredInto 6 (some .int) :: lw_all) ({ frames := 2, cells := 0, slots := 0, locals := 44 } : Room) (va_Pc [.ref (ad 1), .int p1, .int p2] (pt_P D cA ad sz M)) (va_Qi Q (pt_B D cA ad) (pt_fr ad sz)) 0 0 (pt_fr ad sz) := by
  refine Met.ofW (cc := cX1_enteredInto) (maxL := 6) (ret := (some .int)) (by decide) rfl ?_
  intro p e s m args below meth c s₁ B hml hv
  obtain ⟨rfl, hsz, hP, hK⟩ := hv
  have hx := B.exec
  have hb := B.bytes
  have hr := B.returns
  have hts0 := atoms_spec (ws := (Cond.code yX1_enteredInto cX1_enteredInto 6 (some .int) :: lw_all)) B.pre
  have hown : s.vm.findClass RX1 = some m.cls := findClass_of_methodNamed B.named
  have hlocks := B.notSynchronized
  subst hsz
  have F : pt_F p m c cX1_enteredInto 6 s _ RX1 D cA := ⟨⟨hx, hb, hml, hown, fun w h => hts0 w (List.mem_cons_of_mem _ h)⟩, hK⟩
  have hD : ∀ M, va_D (pt_fr ad s.heap.size) (pt_W cA ad M) := pt_D hI (fun k h => Or.inl ⟨k, h, rfl⟩)
  have hS : va_S (pt_fr ad s.heap.size) s.heap s.heap [] := va_S.rf
  have hl := lv_entry ([.ref (ad 1), .int p1, .int p2]) (n := 6) (Nat.le_of_ble_eq_true rfl)
  rw [lg_entry_eq]
  generalize (lg_sl ([.ref (ad 1), .int p1, .int p2]) ++ List.replicate (6 - (lg_sl ([.ref (ad 1), .int p1, .int p2])).length) Slot.unset).toArray = ls at hl ⊢
  have hl : lv_has ls 6 [(0, .ref (ad 1)), (1, .int p1), (2, .int p2)] := hl
  have L10 : ∀ (n10 : Nat) (x3 : Int32) (x4 : Int32) (x5 : Int32) (M : pt_M) (H : Heap) (locs : List Loc) (ls : Array Slot), lpX1_enteredInto_10 p1 p2 Q n10 x3 x4 x5 M → va_P D pt_cl (pt_W cA ad M) H → va_S (pt_fr ad s.heap.size) s.heap H locs → lv_has ls 6 [(0, .ref (ad 1)), (1, .int p1), (2, .int p2), (3, .int x3), (4, .int x4), (5, .int x5)] → W p l e (headSpec (Cond.code yX1_enteredInto cX1_enteredInto 6 (some .int) :: lw_all) ({ frames := 2, cells := 0, slots := 0, locals := 44 } : Room)).room s m ([.ref (ad 1), .int p1, .int p2] : List Value).toArray below meth c H locs 0 0 (MQ below (va_Qi Q (pt_B D cA ad) (pt_fr ad s.heap.size)) ([.ref (ad 1), .int p1, .int p2] : List Value).toArray s 0 0 (pt_fr ad s.heap.size)) (F0 m 10 ls []) := by
    intro n10
    induction n10 with
    | zero => intro x3 x4 x5 M H locs ls hw; exact hw.elim
    | succ n10 ih10 =>
      have J85 : ∀ (x3 : Int32) (x4 : Int32) (x5 : Int32) (M : pt_M) (H : Heap) (locs : List Loc) (ls : Array Slot), wjX1_enteredInto_85 p1 p2 Q (lpX1_enteredInto_10 p1 p2 Q n10) x3 x4 x5 M → va_P D pt_cl (pt_W cA ad M) H → va_S (pt_fr ad s.heap.size) s.heap H locs → lv_has ls 6 [(0, .ref (ad 1)), (1, .int p1), (2, .int p2), (3, .int x3), (4, .int x4), (5, .int x5)] → W p l e (headSpec (Cond.code yX1_enteredInto cX1_enteredInto 6 (some .int) :: lw_all) ({ frames := 2, cells := 0, slots := 0, locals := 44 } : Room)).room s m ([.ref (ad 1), .int p1, .int p2] : List Value).toArray below meth c H locs 0 0 (MQ below (va_Qi Q (pt_B D cA ad) (pt_fr ad s.heap.size)) ([.ref (ad 1), .int p1, .int p2] : List Value).toArray s 0 0 (pt_fr ad s.heap.size)) (F0 m 85 ls []) := by
        intro x3 x4 x5 M H locs ls hw hP hS hl
        unfold wjX1_enteredInto_85 at hw
        obtain ⟨x5_85, ex5_85⟩ : ∃ y : Int32, y = x5 + 1 := ⟨_, rfl⟩
        replace hw := hw x5_85 ex5_85
        refine lv_iinc (v := x5_85) (lv' := [(5, .int x5_85), (0, .ref (ad 1)), (1, .int p1), (2, .int p2), (3, .int x3), (4, .int x4)]) hx hb dX1_enteredInto_85 hl (k := 5) rfl (by rw [ex5_85]; rfl) (by decide) rfl (fun ls hl => ?_)
        refine lv_goto (tgt := 10) hx hb dX1_enteredInto_88 (by decide) ?_
        exact ih10 x3 x4 x5_85 M _ _ _ hw hP hS (lv_sub hl [1, 2, 3, 4, 5, 0] rfl)
      intro x3 x4 x5 M H locs ls hw hP hS hl
      replace hw : lbX1_enteredInto_10 p1 p2 Q (lpX1_enteredInto_10 p1 p2 Q n10) x3 x4 x5 M := hw
      unfold lbX1_enteredInto_10 at hw
      refine lv_iload hx hb dX1_enteredInto_10 (lv_at hl 5 rfl) ?_
      refine lv_aload_n hx hb dX1_enteredInto_12 rfl (lv_at hl 0 rfl) ?_
      refine pt_get F hP (pt_c1 _ pt_k1) (pt_l1 pt_k1) inX1 rfl 3 (by decide) kw_230 rfl rfl dX1_enteredInto_13 ?_
      refine lv_icmp_ge (tgt := 91) hx hb dX1_enteredInto_16 (by decide) (fun hc16 => ?_) (fun hc16 => ?_)
      · replace hw := hw.1 hc16
        refine lv_iload_n hx hb dX1_enteredInto_91 rfl (lv_at hl 3 rfl) ?_
        refine lv_aload_n hx hb dX1_enteredInto_92 rfl (lv_at hl 0 rfl) ?_
        refine lv_iload hx hb dX1_enteredInto_93 (lv_at hl 4 rfl) ?_
        refine pt_calli (pt_runV (n := 1) (As := [.int x4]) (rest := [.int x3]) F hP (pt_c1 _ pt_k1) (pt_l1 pt_k1) rfl (mtX1_filled l D cA ad hI _ x4 M _ hw) kw_719 kw_815 kw_53 kw_717 kw_718 ⟨by decide, by decide, by decide +kernel⟩ ⟨rfl, rfl, Nat.le_of_ble_eq_true rfl, Nat.le_of_ble_eq_true rfl⟩ rfl hl.1 rfl (Nat.le_of_ble_eq_true rfl) dX1_enteredInto_95 ⟨Nat.zero_le _, Nat.zero_le _⟩) hS (fun _ h => h) (fun r_95 M_95 H locs hw hP hS _ _ => ?_)
        refine lv_ior hx hb dX1_enteredInto_98 ?_
        exact W.iret (v := (x3 ||| r_95)) hx hb hr (fun t ht hW => ⟨⟨(x3 ||| r_95), M_95, rfl, hw, by unfold pt_B; rw [ht]; exact hP⟩, hS.F ht⟩) hS.2.2 dX1_enteredInto_99
      · replace hw := hw.2 hc16
        refine lv_aload_n hx hb dX1_enteredInto_19 rfl (lv_at hl 0 rfl) ?_
        refine pt_get F hP (pt_c1 _ pt_k1) (pt_l1 pt_k1) inX1 rfl 0 (by decide) kw_222 rfl rfl dX1_enteredInto_20 ?_
        refine lv_iload_n hx hb dX1_enteredInto_23 rfl (lv_at hl 2 rfl) ?_
        have hv24 := hw.1
        replace hw := hw.2
        refine pt_alds F hP hv24 dX1_enteredInto_24 ?_
        refine pt_get F hP (pt_c5 _ (pt_ks hv24)) (pt_l5 (pt_ks hv24)) inX5 rfl 7 (by decide) kw_152 rfl rfl dX1_enteredInto_25 ?_
        refine lv_iload hx hb dX1_enteredInto_28 (lv_at hl 5 rfl) ?_
        refine pt_calli (pt_runSN (n := 2) (As := [.int (M (pt_s p2) 7), .int x5]) (rest := []) F hP (mtX7_has l D cA ad hI _ (M (pt_s p2) 7) x5 M _ hw) kw_449 kw_618 kw_52 kw_448 ⟨by decide, by decide, by decide +kernel⟩ ⟨rfl, rfl, Nat.le_of_ble_eq_true rfl, Nat.le_of_ble_eq_true rfl⟩ rfl hl.1 rfl (Nat.le_of_ble_eq_true rfl) dX1_enteredInto_30 ⟨Nat.zero_le _, Nat.zero_le _⟩) hS (fun _ h => h) (fun r_30 M_30 H locs hw hP hS _ _ => ?_)
        refine lv_if_eq (tgt := 85) hx hb dX1_enteredInto_33 (by decide) (fun hc33 => ?_) (fun hc33 => ?_)
        · replace hw := hw.1 hc33
          exact J85 x3 x4 x5 M_30 _ _ _ hw hP hS (lv_sub hl [0, 1, 2, 3, 4, 5] rfl)
        · replace hw := hw.2 hc33
          refine lv_aload_n hx hb dX1_enteredInto_36 rfl (lv_at hl 0 rfl) ?_
          refine pt_get F hP (pt_c1 _ pt_k1) (pt_l1 pt_k1) inX1 rfl 0 (by decide) kw_222 rfl rfl dX1_enteredInto_37 ?_
          refine lv_iload hx hb dX1_enteredInto_40 (lv_at hl 5 rfl) ?_
          have hv42 := hw.1
          replace hw := hw.2
          refine pt_alds F hP hv42 dX1_enteredInto_42 ?_
          refine pt_get F hP (pt_c5 _ (pt_ks hv42)) (pt_l5 (pt_ks hv42)) inX5 rfl 7 (by decide) kw_152 rfl rfl dX1_enteredInto_43 ?_
          refine lv_iload_n hx hb dX1_enteredInto_46 rfl (lv_at hl 1 rfl) ?_
          refine lv_iand hx hb dX1_enteredInto_47 ?_
          refine lv_if_eq (tgt := 85) hx hb dX1_enteredInto_48 (by decide) (fun hc48 => ?_) (fun hc48 => ?_)
          · replace hw := hw.1 hc48
            exact J85 x3 x4 x5 M_30 _ _ _ hw hP hS (lv_sub hl [0, 1, 2, 3, 4, 5] rfl)
          · replace hw := hw.2 hc48
            refine lv_iload_n hx hb dX1_enteredInto_51 rfl (lv_at hl 3 rfl) ?_
            refine lv_iload hx hb dX1_enteredInto_52 (lv_at hl 5 rfl) ?_
            refine pt_calli (pt_runSN (n := 1) (As := [.int x5]) (rest := [.int x3]) F hP (mtX7_setOf l D cA ad hI _ x5 M_30 _ hw) kw_103 kw_101 kw_52 kw_102 ⟨by decide, by decide, by decide +kernel⟩ ⟨rfl, rfl, Nat.le_of_ble_eq_true rfl, Nat.le_of_ble_eq_true rfl⟩ rfl hl.1 rfl (Nat.le_of_ble_eq_true rfl) dX1_enteredInto_54 ⟨Nat.zero_le _, Nat.zero_le _⟩) hS (fun _ h => h) (fun r_54 M_54 H locs hw hP hS _ _ => ?_)
            refine lv_ior hx hb dX1_enteredInto_57 ?_
            refine lv_topi (fun x3_58 ex3_58 => ?_)
            replace hw := hw x3_58 ex3_58
            refine lv_istore_n (lv' := [(3, .int x3_58), (0, .ref (ad 1)), (1, .int p1), (2, .int p2), (4, .int x4), (5, .int x5)]) hx hb dX1_enteredInto_58 rfl hl (by decide) rfl (fun ls hl => ?_)
            refine lv_aload_n hx hb dX1_enteredInto_59 rfl (lv_at hl 1 rfl) ?_
            refine pt_get F hP (pt_c1 _ pt_k1) (pt_l1 pt_k1) inX1 rfl 0 (by decide) kw_222 rfl rfl dX1_enteredInto_60 ?_
            refine lv_iload hx hb dX1_enteredInto_63 (lv_at hl 5 rfl) ?_
            have hv65 := hw.1
            replace hw := hw.2
            refine pt_alds F hP hv65 dX1_enteredInto_65 ?_
            refine pt_get F hP (pt_c5 _ (pt_ks hv65)) (pt_l5 (pt_ks hv65)) inX5 rfl 2 (by decide) kw_136 rfl rfl dX1_enteredInto_66 ?_
            refine lv_iconst (v := 1) hx hb dX1_enteredInto_69 (by decide) ?_
            refine lv_icmp_ne (tgt := 85) hx hb dX1_enteredInto_70 (by decide) (fun hc70 => ?_) (fun hc70 => ?_)
            · replace hw := hw.1 hc70
              exact J85 x3_58 x4 x5 M_54 _ _ _ hw hP hS (lv_sub hl [1, 2, 3, 0, 4, 5] rfl)
            · replace hw := hw.2 hc70
              refine lv_iload hx hb dX1_enteredInto_73 (lv_at hl 4 rfl) ?_
              refine lv_aload_n hx hb dX1_enteredInto_75 rfl (lv_at hl 1 rfl) ?_
              refine lv_iload hx hb dX1_enteredInto_76 (lv_at hl 5 rfl) ?_
              refine lv_iload_n hx hb dX1_enteredInto_78 rfl (lv_at hl 2 rfl) ?_
              refine pt_calli (pt_runV (n := 2) (As := [.int x5, .int p1]) (rest := [.int x4]) F hP (pt_c1 _ pt_k1) (pt_l1 pt_k1) rfl (mtX1_partsAside l D cA ad hI _ x5 p1 M_54 _ hw) kw_814 kw_811 kw_53 kw_813 kw_19 ⟨by decide, by decide, by decide +kernel⟩ ⟨rfl, rfl, Nat.le_of_ble_eq_true rfl, Nat.le_of_ble_eq_true rfl⟩ rfl hl.1 rfl (Nat.le_of_ble_eq_true rfl) dX1_enteredInto_79 ⟨Nat.zero_le _, Nat.zero_le _⟩) hS (fun _ h => h) (fun r_79 M_79 H locs hw hP hS _ _ => ?_)
              refine lv_ior hx hb dX1_enteredInto_82 ?_
              refine lv_topi (fun x4_83 ex4_83 => ?_)
              replace hw := hw x4_83 ex4_83
              refine lv_istore (lv' := [(4, .int x4_83), (3, .int x3_58), (0, .ref (ad 1)), (1, .int p1), (2, .int p2), (5, .int x5)]) hx hb dX1_enteredInto_83 hl (by decide) rfl (fun ls hl => ?_)
              exact J85 x3_58 x4_83 x5 M_79 _ _ _ hw hP hS (lv_sub hl [2, 3, 4, 1, 0, 5] rfl)
  unfold wpX1_enteredInto at hw
  refine lv_iconst (v := 0) hx hb dX1_enteredInto_0 (by decide) ?_
  refine lv_istore_n (lv' := [(3, .int 0), (0, .ref (ad 1)), (1, .int p1), (2, .int p2)]) hx hb dX1_enteredInto_1 rfl hl (by decide) rfl (fun ls hl => ?_)
  refine lv_iload_n hx hb dX1_enteredInto_2 rfl (lv_at hl 2 rfl) ?_
  refine lv_istore (lv' := [(4, .int p1), (3, .int 0), (0, .ref (ad 1)), (1, .int p1), (2, .int p2)]) hx hb dX1_enteredInto_3 hl (by decide) rfl (fun ls hl => ?_)
  refine lv_iload_n hx hb dX1_enteredInto_5 rfl (lv_at hl 4 rfl) ?_
  refine lv_iconst (v := 1) hx hb dX1_enteredInto_6 (by decide) ?_
  refine lv_iadd hx hb dX1_enteredInto_7 ?_
  refine lv_topi (fun x5_8 ex5_8 => ?_)
  replace hw := hw x5_8 ex5_8
  refine lv_istore (lv' := [(5, .int x5_8), (4, .int p1), (3, .int 0), (0, .ref (ad 1)), (1, .int p1), (2, .int p2)]) hx hb dX1_enteredInto_8 hl (by decide) rfl (fun ls hl => ?_)
  obtain ⟨n_, hw⟩ := hw
  exact L10 n_ 0 p1 x5_8 M _ _ _ hw hP hS (lv_sub hl [3, 4, 5, 2, 1, 0] rfl)
