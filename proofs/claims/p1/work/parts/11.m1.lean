-- ===== X4_clear
def lbX4_clear_30 (k0 : Nat) (Q : pt_M → Prop)  (R30 : Int32 → pt_M → Prop) (x1 : Int32) (M : pt_M) : Prop :=
  (4 ≤ x1 → Q M) ∧ (¬ 4 ≤ x1 → vp_in x1 4 ∧ ∀ M_45 : pt_M, M_45 = pt_st M (k0 + 3) (Int32.toNatClampNeg x1) 0 → ∀ x1_46 : Int32, x1_46 = x1 + 1 → R30 x1_46 M_45)
def lpX4_clear_30 (k0 : Nat) (Q : pt_M → Prop)  : Nat → Int32 → pt_M → Prop
  | 0 => fun _ _ => False
  | n + 1 => fun x1 M => lbX4_clear_30 k0 Q (lpX4_clear_30 k0 Q n) x1 M
def lbX4_clear_6 (k0 : Nat) (Q : pt_M → Prop)  (R6 : Int32 → pt_M → Prop) (x1 : Int32) (M : pt_M) : Prop :=
  (20 ≤ x1 → ∃ n : Nat, lpX4_clear_30 k0 Q n 0 M) ∧ (¬ 20 ≤ x1 → vp_in x1 20 ∧ ∀ M_21 : pt_M, M_21 = pt_st M (k0 + 2) (Int32.toNatClampNeg x1) 0 → ∀ x1_22 : Int32, x1_22 = x1 + 1 → R6 x1_22 M_21)
def lpX4_clear_6 (k0 : Nat) (Q : pt_M → Prop)  : Nat → Int32 → pt_M → Prop
  | 0 => fun _ _ => False
  | n + 1 => fun x1 M => lbX4_clear_6 k0 Q (lpX4_clear_6 k0 Q n) x1 M
def wpX4_clear (k0 : Nat) (M : pt_M) (Q : pt_M → Prop) : Prop :=
  wpX4_deactivate k0 M (fun (M_1 : pt_M) => ∃ n : Nat, lpX4_clear_6 k0 Q n 0 M_1)
set_option maxHeartbeats 4000000 in
set_option maxRecDepth 100000 in
theorem mtX4_clear (l : Launch) (D : va_G) (cA : Nat → ClassId) (ad : Nat → Nat) (hI : pt_I ad) (sz : Nat) (k0 : Nat) (hk0 : pt_kd k0 = 4) (M : pt_M) (Q : pt_M → Prop) (hw : wpX4_clear k0 M Q) : Met l yX4_clear (Cond.code yX4_clear cX4_clear 2 none :: lw_all) ({ frames := 1, cells := 0, slots := 0, locals := 21 } : Room) (va_Pc [.ref (ad k0)] (pt_P D cA ad sz M)) (va_Qv Q (pt_B D cA ad) (pt_fr ad sz)) 0 0 (pt_fr ad sz) := by
  refine Met.ofW (cc := cX4_clear) (maxL := 2) (ret := none) (by decide) rfl ?_
  intro p e s m args below meth c s₁ B hml hv
  obtain ⟨rfl, hsz, hP, hK⟩ := hv
  have hx := B.exec
  have hb := B.bytes
  have hr := B.returns
  have hts0 := atoms_spec (ws := (Cond.code yX4_clear cX4_clear 2 none :: lw_all)) B.pre
  have hown : s.vm.findClass RX4 = some m.cls := findClass_of_methodNamed B.named
  have hlocks := B.notSynchronized
  subst hsz
  have F : pt_F p m c cX4_clear 2 s _ RX4 D cA := ⟨⟨hx, hb, hml, hown, fun w h => hts0 w (List.mem_cons_of_mem _ h)⟩, hK⟩
  have hD : ∀ M, va_D (pt_fr ad s.heap.size) (pt_W cA ad M) := pt_D hI (fun k h => Or.inl ⟨k, h, rfl⟩)
  have hS : va_S (pt_fr ad s.heap.size) s.heap s.heap [] := va_S.rf
  have hl := lv_entry ([.ref (ad k0)]) (n := 2) (Nat.le_of_ble_eq_true rfl)
  rw [lg_entry_eq]
  generalize (lg_sl ([.ref (ad k0)]) ++ List.replicate (2 - (lg_sl ([.ref (ad k0)])).length) Slot.unset).toArray = ls at hl ⊢
  have hl : lv_has ls 2 [(0, .ref (ad k0))] := hl
  have L30 : ∀ (n30 : Nat) (x1 : Int32) (M : pt_M) (H : Heap) (locs : List Loc) (ls : Array Slot), lpX4_clear_30 k0 Q n30 x1 M → va_P D pt_cl (pt_W cA ad M) H → va_S (pt_fr ad s.heap.size) s.heap H locs → lv_has ls 2 [(0, .ref (ad k0)), (1, .int x1)] → W p l e (headSpec (Cond.code yX4_clear cX4_clear 2 none :: lw_all) ({ frames := 1, cells := 0, slots := 0, locals := 21 } : Room)).room s m ([.ref (ad k0)] : List Value).toArray below meth c H locs 0 0 (MQ below (va_Qv Q (pt_B D cA ad) (pt_fr ad s.heap.size)) ([.ref (ad k0)] : List Value).toArray s 0 0 (pt_fr ad s.heap.size)) (F0 m 30 ls []) := by
    intro n30
    induction n30 with
    | zero => intro x1 M H locs ls hw; exact hw.elim
    | succ n30 ih30 =>
      intro x1 M H locs ls hw hP hS hl
      replace hw : lbX4_clear_30 k0 Q (lpX4_clear_30 k0 Q n30) x1 M := hw
      unfold lbX4_clear_30 at hw
      refine lv_iload_n hx hb dX4_clear_30 rfl (lv_at hl 1 rfl) ?_
      refine lv_aload_n hx hb dX4_clear_31 rfl (lv_at hl 0 rfl) ?_
      refine pt_get F hP (pt_c4 _ hk0) (pt_l4 hk0) inX4 rfl 2 (by decide) kw_273 rfl rfl dX4_clear_32 ?_
      refine pt_alen (v := 4) F hP (pt_4v hk0) rfl dX4_clear_35 ?_
      refine lv_icmp_ge (tgt := 52) hx hb dX4_clear_36 (by decide) (fun hc36 => ?_) (fun hc36 => ?_)
      · replace hw := hw.1 hc36
        exact W.vret hx hb hr (fun t ht hW => ⟨⟨M, rfl, hw, by unfold pt_B; rw [ht]; exact hP⟩, hS.F ht⟩) hS.2.2 dX4_clear_52
      · replace hw := hw.2 hc36
        refine lv_aload_n hx hb dX4_clear_39 rfl (lv_at hl 0 rfl) ?_
        refine pt_get F hP (pt_c4 _ hk0) (pt_l4 hk0) inX4 rfl 2 (by decide) kw_273 rfl rfl dX4_clear_40 ?_
        refine lv_iload_n hx hb dX4_clear_43 rfl (lv_at hl 1 rfl) ?_
        refine lv_iconst (v := 0) hx hb dX4_clear_44 (by decide) ?_
        have hv45 := hw.1
        replace hw := hw.2
        refine pt_iast F hP hD hS (pt_4v hk0) hv45 dX4_clear_45 (fun M_45 H locs eM_45 hP hS => ?_)
        replace hw := hw M_45 eM_45
        obtain ⟨x1_46, ex1_46⟩ : ∃ y : Int32, y = x1 + 1 := ⟨_, rfl⟩
        replace hw := hw x1_46 ex1_46
        refine lv_iinc (v := x1_46) (lv' := [(1, .int x1_46), (0, .ref (ad k0))]) hx hb dX4_clear_46 hl (k := 1) rfl (by rw [ex1_46]; rfl) (by decide) rfl (fun ls hl => ?_)
        refine lv_goto (tgt := 30) hx hb dX4_clear_49 (by decide) ?_
        exact ih30 x1_46 M_45 _ _ _ hw hP hS (lv_sub hl [1, 0] rfl)
  have L6 : ∀ (n6 : Nat) (x1 : Int32) (M : pt_M) (H : Heap) (locs : List Loc) (ls : Array Slot), lpX4_clear_6 k0 Q n6 x1 M → va_P D pt_cl (pt_W cA ad M) H → va_S (pt_fr ad s.heap.size) s.heap H locs → lv_has ls 2 [(0, .ref (ad k0)), (1, .int x1)] → W p l e (headSpec (Cond.code yX4_clear cX4_clear 2 none :: lw_all) ({ frames := 1, cells := 0, slots := 0, locals := 21 } : Room)).room s m ([.ref (ad k0)] : List Value).toArray below meth c H locs 0 0 (MQ below (va_Qv Q (pt_B D cA ad) (pt_fr ad s.heap.size)) ([.ref (ad k0)] : List Value).toArray s 0 0 (pt_fr ad s.heap.size)) (F0 m 6 ls []) := by
    intro n6
    induction n6 with
    | zero => intro x1 M H locs ls hw; exact hw.elim
    | succ n6 ih6 =>
      intro x1 M H locs ls hw hP hS hl
      replace hw : lbX4_clear_6 k0 Q (lpX4_clear_6 k0 Q n6) x1 M := hw
      unfold lbX4_clear_6 at hw
      refine lv_iload_n hx hb dX4_clear_6 rfl (lv_at hl 1 rfl) ?_
      refine lv_aload_n hx hb dX4_clear_7 rfl (lv_at hl 0 rfl) ?_
      refine pt_get F hP (pt_c4 _ hk0) (pt_l4 hk0) inX4 rfl 1 (by decide) kw_270 rfl rfl dX4_clear_8 ?_
      refine pt_alen (v := 20) F hP (pt_4r hk0) rfl dX4_clear_11 ?_
      refine lv_icmp_ge (tgt := 28) hx hb dX4_clear_12 (by decide) (fun hc12 => ?_) (fun hc12 => ?_)
      · replace hw := hw.1 hc12
        refine lv_iconst (v := 0) hx hb dX4_clear_28 (by decide) ?_
        refine lv_istore_n (lv' := [(1, .int 0), (0, .ref (ad k0))]) hx hb dX4_clear_29 rfl hl (by decide) rfl (fun ls hl => ?_)
        obtain ⟨n_, hw⟩ := hw
        exact L30 n_ 0 M _ _ _ hw hP hS (lv_sub hl [1, 0] rfl)
      · replace hw := hw.2 hc12
        refine lv_aload_n hx hb dX4_clear_15 rfl (lv_at hl 0 rfl) ?_
        refine pt_get F hP (pt_c4 _ hk0) (pt_l4 hk0) inX4 rfl 1 (by decide) kw_270 rfl rfl dX4_clear_16 ?_
        refine lv_iload_n hx hb dX4_clear_19 rfl (lv_at hl 1 rfl) ?_
        refine lv_iconst (v := 0) hx hb dX4_clear_20 (by decide) ?_
        have hv21 := hw.1
        replace hw := hw.2
        refine pt_iast F hP hD hS (pt_4r hk0) hv21 dX4_clear_21 (fun M_21 H locs eM_21 hP hS => ?_)
        replace hw := hw M_21 eM_21
        obtain ⟨x1_22, ex1_22⟩ : ∃ y : Int32, y = x1 + 1 := ⟨_, rfl⟩
        replace hw := hw x1_22 ex1_22
        refine lv_iinc (v := x1_22) (lv' := [(1, .int x1_22), (0, .ref (ad k0))]) hx hb dX4_clear_22 hl (k := 1) rfl (by rw [ex1_22]; rfl) (by decide) rfl (fun ls hl => ?_)
        refine lv_goto (tgt := 6) hx hb dX4_clear_25 (by decide) ?_
        exact ih6 x1_22 M_21 _ _ _ hw hP hS (lv_sub hl [1, 0] rfl)
  unfold wpX4_clear at hw
  refine lv_aload_n hx hb dX4_clear_0 rfl (lv_at hl 0 rfl) ?_
  refine pt_callv (pt_runV (n := 0) (As := []) (rest := []) F hP (pt_c4 _ hk0) (pt_l4 hk0) rfl (mtX4_deactivate l D cA ad hI _ k0 hk0 M _ hw) kw_714 kw_711 kw_58 kw_712 kw_713 ⟨by decide, by decide, by decide +kernel⟩ ⟨rfl, rfl, Nat.le_of_ble_eq_true rfl, Nat.le_of_ble_eq_true rfl⟩ rfl hl.1 rfl (Nat.le_of_ble_eq_true rfl) dX4_clear_1 ⟨Nat.zero_le _, Nat.zero_le _⟩) hS (fun _ h => h) (fun M_1 H locs hw hP hS _ _ => ?_)
  refine lv_iconst (v := 0) hx hb dX4_clear_4 (by decide) ?_
  refine lv_istore_n (lv' := [(1, .int 0), (0, .ref (ad k0))]) hx hb dX4_clear_5 rfl hl (by decide) rfl (fun ls hl => ?_)
  obtain ⟨n_, hw⟩ := hw
  exact L6 n_ 0 M_1 _ _ _ hw hP hS (lv_sub hl [1, 0] rfl)
-- ===== X4_add
def wpX4_add (k0 : Nat) (p1 : Int32) (p2 : Int32) (M : pt_M) (Q : pt_M → Prop) : Prop :=
  vp_in p1 4 ∧ (∀ x3_8 : Int32, x3_8 = ((M (k0 + 3) (Int32.toNatClampNeg p1)) + p2) → ∀ r_19 : Int32, r_19 = (if x3_8 < 99 then x3_8 else 99) → ∀ r_22 : Int32, r_22 = (if (-99) < r_19 then r_19 else (-99)) → vp_in p1 4 ∧ ∀ M_25 : pt_M, M_25 = pt_st M (k0 + 3) (Int32.toNatClampNeg p1) r_22 → Q M_25)
set_option maxHeartbeats 4000000 in
set_option maxRecDepth 100000 in
theorem mtX4_add (l : Launch) (D : va_G) (cA : Nat → ClassId) (ad : Nat → Nat) (hI : pt_I ad) (sz : Nat) (k0 : Nat) (hk0 : pt_kd k0 = 4) (p1 : Int32) (p2 : Int32) (M : pt_M) (Q : pt_M → Prop) (hw : wpX4_add k0 p1 p2 M Q) : Met l yX4_add (Cond.code yX4_add cX4_add 4 none :: lw_all) ({ frames := 1, cells := 0, slots := 0, locals := 21 } : Room) (va_Pc [.ref (ad k0), .int p1, .int p2] (pt_P D cA ad sz M)) (va_Qv Q (pt_B D cA ad) (pt_fr ad sz)) 0 0 (pt_fr ad sz) := by
  refine Met.ofW (cc := cX4_add) (maxL := 4) (ret := none) (by decide) rfl ?_
  intro p e s m args below meth c s₁ B hml hv
  obtain ⟨rfl, hsz, hP, hK⟩ := hv
  have hx := B.exec
  have hb := B.bytes
  have hr := B.returns
  have hts0 := atoms_spec (ws := (Cond.code yX4_add cX4_add 4 none :: lw_all)) B.pre
  have hown : s.vm.findClass RX4 = some m.cls := findClass_of_methodNamed B.named
  have hlocks := B.notSynchronized
  subst hsz
  have F : pt_F p m c cX4_add 4 s _ RX4 D cA := ⟨⟨hx, hb, hml, hown, fun w h => hts0 w (List.mem_cons_of_mem _ h)⟩, hK⟩
  have hD : ∀ M, va_D (pt_fr ad s.heap.size) (pt_W cA ad M) := pt_D hI (fun k h => Or.inl ⟨k, h, rfl⟩)
  have hS : va_S (pt_fr ad s.heap.size) s.heap s.heap [] := va_S.rf
  have hl := lv_entry ([.ref (ad k0), .int p1, .int p2]) (n := 4) (Nat.le_of_ble_eq_true rfl)
  rw [lg_entry_eq]
  generalize (lg_sl ([.ref (ad k0), .int p1, .int p2]) ++ List.replicate (4 - (lg_sl ([.ref (ad k0), .int p1, .int p2])).length) Slot.unset).toArray = ls at hl ⊢
  have hl : lv_has ls 4 [(0, .ref (ad k0)), (1, .int p1), (2, .int p2)] := hl
  unfold wpX4_add at hw
  refine lv_aload_n hx hb dX4_add_0 rfl (lv_at hl 0 rfl) ?_
  refine pt_get F hP (pt_c4 _ hk0) (pt_l4 hk0) inX4 rfl 2 (by decide) kw_273 rfl rfl dX4_add_1 ?_
  refine lv_iload_n hx hb dX4_add_4 rfl (lv_at hl 1 rfl) ?_
  have hv5 := hw.1
  replace hw := hw.2
  refine pt_iald F hP (pt_4v hk0) hv5 dX4_add_5 ?_
  refine lv_iload_n hx hb dX4_add_6 rfl (lv_at hl 2 rfl) ?_
  refine lv_iadd hx hb dX4_add_7 ?_
  refine lv_topi (fun x3_8 ex3_8 => ?_)
  replace hw := hw x3_8 ex3_8
  refine lv_istore_n (lv' := [(3, .int x3_8), (0, .ref (ad k0)), (1, .int p1), (2, .int p2)]) hx hb dX4_add_8 rfl hl (by decide) rfl (fun ls hl => ?_)
  refine lv_aload_n hx hb dX4_add_9 rfl (lv_at hl 1 rfl) ?_
  refine pt_get F hP (pt_c4 _ hk0) (pt_l4 hk0) inX4 rfl 2 (by decide) kw_273 rfl rfl dX4_add_10 ?_
  refine lv_iload_n hx hb dX4_add_13 rfl (lv_at hl 2 rfl) ?_
  refine lv_bipush (v := (-99)) hx hb dX4_add_14 (by decide) ?_
  refine lv_bipush (v := 99) hx hb dX4_add_16 (by decide) ?_
  refine lv_iload_n hx hb dX4_add_18 rfl (lv_at hl 0 rfl) ?_
  refine va_mmin hx hb (hml.trans hl.1.symm) hown (F.1.2.2.2.2 _ kw_734) (F.1.2.2.2.2 _ kw_735) (F.1.2.2.2.2 _ kw_68) (F.1.2.2.2.2 _ kw_736) (Nat.le_of_ble_eq_true rfl) (Nat.le_of_ble_eq_true rfl) (Nat.zero_le _) (Nat.zero_le _) dX4_add_19 ?_
  refine lv_topi (fun r_19 er_19 => ?_)
  replace hw := hw r_19 er_19
  refine va_mmax hx hb (hml.trans hl.1.symm) hown (F.1.2.2.2.2 _ kw_737) (F.1.2.2.2.2 _ kw_738) (F.1.2.2.2.2 _ kw_68) (F.1.2.2.2.2 _ kw_739) (Nat.le_of_ble_eq_true rfl) (Nat.le_of_ble_eq_true rfl) (Nat.zero_le _) (Nat.zero_le _) dX4_add_22 ?_
  refine lv_topi (fun r_22 er_22 => ?_)
  replace hw := hw r_22 er_22
  have hv25 := hw.1
  replace hw := hw.2
  refine pt_iast F hP hD hS (pt_4v hk0) hv25 dX4_add_25 (fun M_25 H locs eM_25 hP hS => ?_)
  replace hw := hw M_25 eM_25
  exact W.vret hx hb hr (fun t ht hW => ⟨⟨M_25, rfl, hw, by unfold pt_B; rw [ht]; exact hP⟩, hS.F ht⟩) hS.2.2 dX4_add_26
-- ===== X4_copyFrom
def wpX4_copyFrom (k0 : Nat) (k1 : Nat) (M : pt_M) (Q : pt_M → Prop) : Prop :=
  ∀ M_5 : pt_M, M_5 = pt_st M k0 3 (M k1 3) → ∀ M_23 : pt_M, M_23 = pt_cp M_5 (k0 + 1) (k1 + 1) 20 → ∀ M_41 : pt_M, M_41 = pt_cp M_23 (k0 + 2) (k1 + 2) 20 → ∀ M_59 : pt_M, M_59 = pt_cp M_41 (k0 + 3) (k1 + 3) 4 → Q M_59
set_option maxHeartbeats 4000000 in
set_option maxRecDepth 100000 in
theorem mtX4_copyFrom (l : Launch) (D : va_G) (cA : Nat → ClassId) (ad : Nat → Nat) (hI : pt_I ad) (sz : Nat) (k0 : Nat) (hk0 : pt_kd k0 = 4) (k1 : Nat) (hk1 : pt_kd k1 = 4) (M : pt_M) (Q : pt_M → Prop) (hw : wpX4_copyFrom k0 k1 M Q) : Met l yX4_copyFrom (Cond.code yX4_copyFrom cX4_copyFrom 2 none :: lw_all) ({ frames := 1, cells := 0, slots := 0, locals := 40 } : Room) (va_Pc [.ref (ad k0), .ref (ad k1)] (pt_P D cA ad sz M)) (va_Qv Q (pt_B D cA ad) (pt_fr ad sz)) 0 0 (pt_fr ad sz) := by
  refine Met.ofW (cc := cX4_copyFrom) (maxL := 2) (ret := none) (by decide) rfl ?_
  intro p e s m args below meth c s₁ B hml hv
  obtain ⟨rfl, hsz, hP, hK⟩ := hv
  have hx := B.exec
  have hb := B.bytes
  have hr := B.returns
  have hts0 := atoms_spec (ws := (Cond.code yX4_copyFrom cX4_copyFrom 2 none :: lw_all)) B.pre
  have hown : s.vm.findClass RX4 = some m.cls := findClass_of_methodNamed B.named
  have hlocks := B.notSynchronized
  subst hsz
  have F : pt_F p m c cX4_copyFrom 2 s _ RX4 D cA := ⟨⟨hx, hb, hml, hown, fun w h => hts0 w (List.mem_cons_of_mem _ h)⟩, hK⟩
  have hD : ∀ M, va_D (pt_fr ad s.heap.size) (pt_W cA ad M) := pt_D hI (fun k h => Or.inl ⟨k, h, rfl⟩)
  have hS : va_S (pt_fr ad s.heap.size) s.heap s.heap [] := va_S.rf
  have hl := lv_entry ([.ref (ad k0), .ref (ad k1)]) (n := 2) (Nat.le_of_ble_eq_true rfl)
  rw [lg_entry_eq]
  generalize (lg_sl ([.ref (ad k0), .ref (ad k1)]) ++ List.replicate (2 - (lg_sl ([.ref (ad k0), .ref (ad k1)])).length) Slot.unset).toArray = ls at hl ⊢
  have hl : lv_has ls 2 [(0, .ref (ad k0)), (1, .ref (ad k1))] := hl
  unfold wpX4_copyFrom at hw
  refine lv_aload_n hx hb dX4_copyFrom_0 rfl (lv_at hl 0 rfl) ?_
  refine lv_aload_n hx hb dX4_copyFrom_1 rfl (lv_at hl 1 rfl) ?_
  refine pt_get F hP (pt_c4 _ hk1) (pt_l4 hk1) inX4 rfl 3 (by decide) kw_276 rfl rfl dX4_copyFrom_2 ?_
  refine pt_put F hP hD hS (pt_c4 _ hk0) (pt_l4 hk0) inX4 tyX4 tyX4_ok nmX4 rfl 3 (by decide) kw_276 rfl rfl rfl rfl (Nat.le_of_ble_eq_true rfl) (pt_c4 _ hk0) dX4_copyFrom_5 (fun M_5 H locs eM_5 hP hS => ?_)
  replace hw := hw M_5 eM_5
  refine lv_aload_n hx hb dX4_copyFrom_8 rfl (lv_at hl 1 rfl) ?_
  refine pt_get F hP (pt_c4 _ hk1) (pt_l4 hk1) inX4 rfl 0 (by decide) kw_267 rfl rfl dX4_copyFrom_9 ?_
  refine lv_iconst (v := 0) hx hb dX4_copyFrom_12 (by decide) ?_
  refine lv_aload_n hx hb dX4_copyFrom_13 rfl (lv_at hl 0 rfl) ?_
  refine pt_get F hP (pt_c4 _ hk0) (pt_l4 hk0) inX4 rfl 0 (by decide) kw_267 rfl rfl dX4_copyFrom_14 ?_
  refine lv_iconst (v := 0) hx hb dX4_copyFrom_17 (by decide) ?_
  refine lv_aload_n hx hb dX4_copyFrom_18 rfl (lv_at hl 0 rfl) ?_
  refine pt_get F hP (pt_c4 _ hk0) (pt_l4 hk0) inX4 rfl 0 (by decide) kw_267 rfl rfl dX4_copyFrom_19 ?_
  refine pt_alen (v := 20) F hP (pt_4a hk0) rfl dX4_copyFrom_22 ?_
  refine pt_cpy F hP hD hS hl.1 kw_888 kw_890 kw_889 kw_70 (pt_4a hk1) (pt_4a hk0) (by decide) (by decide) (Nat.le_of_ble_eq_true rfl) (Nat.le_of_ble_eq_true rfl) dX4_copyFrom_23 (fun M_23 H locs eM_23 hP hS => ?_)
  replace hw := hw M_23 eM_23
  refine lv_aload_n hx hb dX4_copyFrom_26 rfl (lv_at hl 1 rfl) ?_
  refine pt_get F hP (pt_c4 _ hk1) (pt_l4 hk1) inX4 rfl 1 (by decide) kw_270 rfl rfl dX4_copyFrom_27 ?_
  refine lv_iconst (v := 0) hx hb dX4_copyFrom_30 (by decide) ?_
  refine lv_aload_n hx hb dX4_copyFrom_31 rfl (lv_at hl 0 rfl) ?_
  refine pt_get F hP (pt_c4 _ hk0) (pt_l4 hk0) inX4 rfl 1 (by decide) kw_270 rfl rfl dX4_copyFrom_32 ?_
  refine lv_iconst (v := 0) hx hb dX4_copyFrom_35 (by decide) ?_
  refine lv_aload_n hx hb dX4_copyFrom_36 rfl (lv_at hl 0 rfl) ?_
  refine pt_get F hP (pt_c4 _ hk0) (pt_l4 hk0) inX4 rfl 1 (by decide) kw_270 rfl rfl dX4_copyFrom_37 ?_
  refine pt_alen (v := 20) F hP (pt_4r hk0) rfl dX4_copyFrom_40 ?_
  refine pt_cpy F hP hD hS hl.1 kw_888 kw_890 kw_889 kw_70 (pt_4r hk1) (pt_4r hk0) (by decide) (by decide) (Nat.le_of_ble_eq_true rfl) (Nat.le_of_ble_eq_true rfl) dX4_copyFrom_41 (fun M_41 H locs eM_41 hP hS => ?_)
  replace hw := hw M_41 eM_41
  refine lv_aload_n hx hb dX4_copyFrom_44 rfl (lv_at hl 1 rfl) ?_
  refine pt_get F hP (pt_c4 _ hk1) (pt_l4 hk1) inX4 rfl 2 (by decide) kw_273 rfl rfl dX4_copyFrom_45 ?_
  refine lv_iconst (v := 0) hx hb dX4_copyFrom_48 (by decide) ?_
  refine lv_aload_n hx hb dX4_copyFrom_49 rfl (lv_at hl 0 rfl) ?_
  refine pt_get F hP (pt_c4 _ hk0) (pt_l4 hk0) inX4 rfl 2 (by decide) kw_273 rfl rfl dX4_copyFrom_50 ?_
  refine lv_iconst (v := 0) hx hb dX4_copyFrom_53 (by decide) ?_
  refine lv_aload_n hx hb dX4_copyFrom_54 rfl (lv_at hl 0 rfl) ?_
  refine pt_get F hP (pt_c4 _ hk0) (pt_l4 hk0) inX4 rfl 2 (by decide) kw_273 rfl rfl dX4_copyFrom_55 ?_
  refine pt_alen (v := 4) F hP (pt_4v hk0) rfl dX4_copyFrom_58 ?_
  refine pt_cpy F hP hD hS hl.1 kw_888 kw_890 kw_889 kw_70 (pt_4v hk1) (pt_4v hk0) (by decide) (by decide) (Nat.le_of_ble_eq_true rfl) (Nat.le_of_ble_eq_true rfl) dX4_copyFrom_59 (fun M_59 H locs eM_59 hP hS => ?_)
  replace hw := hw M_59 eM_59
  exact W.vret hx hb hr (fun t ht hW => ⟨⟨M_59, rfl, hw, by unfold pt_B; rw [ht]; exact hP⟩, hS.F ht⟩) hS.2.2 dX4_copyFrom_62
-- ===== X4_isSameAs
def wjX4_isSameAs_98 (k0 : Nat) (k1 : Nat) (Q : Int32 → pt_M → Prop)   (M : pt_M) : Prop :=
  Q 0 M
def lbX4_isSameAs_49 (k0 : Nat) (k1 : Nat) (Q : Int32 → pt_M → Prop)  (R49 : Int32 → pt_M → Prop) (x2 : Int32) (M : pt_M) : Prop :=
  (20 ≤ x2 → Q 1 M) ∧ (¬ 20 ≤ x2 → vp_in x2 20 ∧ (∀ r_66 : Int32, r_66 = (if 50 < (M (k0 + 1) (Int32.toNatClampNeg x2)) then 50 else (M (k0 + 1) (Int32.toNatClampNeg x2))) → vp_in x2 20 ∧ (∀ r_77 : Int32, r_77 = (if 50 < (M (k1 + 1) (Int32.toNatClampNeg x2)) then 50 else (M (k1 + 1) (Int32.toNatClampNeg x2))) → (¬ r_66 = r_77 → wjX4_isSameAs_98 k0 k1 Q M) ∧ (r_66 = r_77 → vp_in x2 20 ∧ (vp_in x2 20 ∧ (((M (k0 + 2) (Int32.toNatClampNeg x2)) = (M (k1 + 2) (Int32.toNatClampNeg x2)) → ∀ x2_100 : Int32, x2_100 = x2 + 1 → R49 x2_100 M) ∧ (¬ (M (k0 + 2) (Int32.toNatClampNeg x2)) = (M (k1 + 2) (Int32.toNatClampNeg x2)) → wjX4_isSameAs_98 k0 k1 Q M)))))))
def lpX4_isSameAs_49 (k0 : Nat) (k1 : Nat) (Q : Int32 → pt_M → Prop)  : Nat → Int32 → pt_M → Prop
  | 0 => fun _ _ => False
  | n + 1 => fun x2 M => lbX4_isSameAs_49 k0 k1 Q (lpX4_isSameAs_49 k0 k1 Q n) x2 M
def lbX4_isSameAs_15 (k0 : Nat) (k1 : Nat) (Q : Int32 → pt_M → Prop)  (R15 : Int32 → pt_M → Prop) (x2 : Int32) (M : pt_M) : Prop :=
  (4 ≤ x2 → ∃ n : Nat, lpX4_isSameAs_49 k0 k1 Q n 0 M) ∧ (¬ 4 ≤ x2 → vp_in x2 4 ∧ (vp_in x2 4 ∧ (((M (k0 + 3) (Int32.toNatClampNeg x2)) = (M (k1 + 3) (Int32.toNatClampNeg x2)) → ∀ x2_41 : Int32, x2_41 = x2 + 1 → R15 x2_41 M) ∧ (¬ (M (k0 + 3) (Int32.toNatClampNeg x2)) = (M (k1 + 3) (Int32.toNatClampNeg x2)) → Q 0 M))))
def lpX4_isSameAs_15 (k0 : Nat) (k1 : Nat) (Q : Int32 → pt_M → Prop)  : Nat → Int32 → pt_M → Prop
  | 0 => fun _ _ => False
  | n + 1 => fun x2 M => lbX4_isSameAs_15 k0 k1 Q (lpX4_isSameAs_15 k0 k1 Q n) x2 M
def wpX4_isSameAs (k0 : Nat) (k1 : Nat) (M : pt_M) (Q : Int32 → pt_M → Prop) : Prop :=
  ((M k0 3) = (M k1 3) → ∃ n : Nat, lpX4_isSameAs_15 k0 k1 Q n 0 M) ∧ (¬ (M k0 3) = (M k1 3) → Q 0 M)
set_option maxHeartbeats 4000000 in
set_option maxRecDepth 100000 in
theorem mtX4_isSameAs (l : Launch) (D : va_G) (cA : Nat → ClassId) (ad : Nat → Nat) (hI : pt_I ad) (sz : Nat) (k0 : Nat) (hk0 : pt_kd k0 = 4) (k1 : Nat) (hk1 : pt_kd k1 = 4) (M : pt_M) (Q : Int32 → pt_M → Prop) (hw : wpX4_isSameAs k0 k1 M Q) : Met l yX4_isSameAs (Cond.code yX4_isSameAs cX4_isSameAs 3 (some .boolean) :: lw_all) ({ frames := 1, cells := 0, slots := 0, locals := 21 } : Room) (va_Pc [.ref (ad k0), .ref (ad k1)] (pt_P D cA ad sz M)) (va_Qi Q (pt_B D cA ad) (pt_fr ad sz)) 0 0 (pt_fr ad sz) := by
  refine Met.ofW (cc := cX4_isSameAs) (maxL := 3) (ret := (some .boolean)) (by decide) rfl ?_
  intro p e s m args below meth c s₁ B hml hv
  obtain ⟨rfl, hsz, hP, hK⟩ := hv
  have hx := B.exec
  have hb := B.bytes
  have hr := B.returns
  have hts0 := atoms_spec (ws := (Cond.code yX4_isSameAs cX4_isSameAs 3 (some .boolean) :: lw_all)) B.pre
  have hown : s.vm.findClass RX4 = some m.cls := findClass_of_methodNamed B.named
  have hlocks := B.notSynchronized
  subst hsz
  have F : pt_F p m c cX4_isSameAs 3 s _ RX4 D cA := ⟨⟨hx, hb, hml, hown, fun w h => hts0 w (List.mem_cons_of_mem _ h)⟩, hK⟩
  have hD : ∀ M, va_D (pt_fr ad s.heap.size) (pt_W cA ad M) := pt_D hI (fun k h => Or.inl ⟨k, h, rfl⟩)
  have hS : va_S (pt_fr ad s.heap.size) s.heap s.heap [] := va_S.rf
  have hl := lv_entry ([.ref (ad k0), .ref (ad k1)]) (n := 3) (Nat.le_of_ble_eq_true rfl)
  rw [lg_entry_eq]
  generalize (lg_sl ([.ref (ad k0), .ref (ad k1)]) ++ List.replicate (3 - (lg_sl ([.ref (ad k0), .ref (ad k1)])).length) Slot.unset).toArray = ls at hl ⊢
  have hl : lv_has ls 3 [(0, .ref (ad k0)), (1, .ref (ad k1))] := hl
  have J98 : ∀ (M : pt_M) (H : Heap) (locs : List Loc) (ls : Array Slot), wjX4_isSameAs_98 k0 k1 Q M → va_P D pt_cl (pt_W cA ad M) H → va_S (pt_fr ad s.heap.size) s.heap H locs → lv_has ls 3 [] → W p l e (headSpec (Cond.code yX4_isSameAs cX4_isSameAs 3 (some .boolean) :: lw_all) ({ frames := 1, cells := 0, slots := 0, locals := 21 } : Room)).room s m ([.ref (ad k0), .ref (ad k1)] : List Value).toArray below meth c H locs 0 0 (MQ below (va_Qi Q (pt_B D cA ad) (pt_fr ad s.heap.size)) ([.ref (ad k0), .ref (ad k1)] : List Value).toArray s 0 0 (pt_fr ad s.heap.size)) (F0 m 98 ls []) := by
    intro M H locs ls hw hP hS hl
    unfold wjX4_isSameAs_98 at hw
    refine lv_iconst (v := 0) hx hb dX4_isSameAs_98 (by decide) ?_
    exact W.zret (v := 0) (ty := .boolean) hx hb hr rfl (fun t ht hW => ⟨⟨0, M, rfl, hw, by unfold pt_B; rw [ht]; exact hP⟩, hS.F ht⟩) hS.2.2 dX4_isSameAs_99
  have L49 : ∀ (n49 : Nat) (x2 : Int32) (M : pt_M) (H : Heap) (locs : List Loc) (ls : Array Slot), lpX4_isSameAs_49 k0 k1 Q n49 x2 M → va_P D pt_cl (pt_W cA ad M) H → va_S (pt_fr ad s.heap.size) s.heap H locs → lv_has ls 3 [(0, .ref (ad k0)), (1, .ref (ad k1)), (2, .int x2)] → W p l e (headSpec (Cond.code yX4_isSameAs cX4_isSameAs 3 (some .boolean) :: lw_all) ({ frames := 1, cells := 0, slots := 0, locals := 21 } : Room)).room s m ([.ref (ad k0), .ref (ad k1)] : List Value).toArray below meth c H locs 0 0 (MQ below (va_Qi Q (pt_B D cA ad) (pt_fr ad s.heap.size)) ([.ref (ad k0), .ref (ad k1)] : List Value).toArray s 0 0 (pt_fr ad s.heap.size)) (F0 m 49 ls []) := by
    intro n49
    induction n49 with
    | zero => intro x2 M H locs ls hw; exact hw.elim
    | succ n49 ih49 =>
      intro x2 M H locs ls hw hP hS hl
      replace hw : lbX4_isSameAs_49 k0 k1 Q (lpX4_isSameAs_49 k0 k1 Q n49) x2 M := hw
      unfold lbX4_isSameAs_49 at hw
      refine lv_iload_n hx hb dX4_isSameAs_49 rfl (lv_at hl 2 rfl) ?_
      refine lv_aload_n hx hb dX4_isSameAs_50 rfl (lv_at hl 0 rfl) ?_
      refine pt_get F hP (pt_c4 _ hk0) (pt_l4 hk0) inX4 rfl 0 (by decide) kw_267 rfl rfl dX4_isSameAs_51 ?_
      refine pt_alen (v := 20) F hP (pt_4a hk0) rfl dX4_isSameAs_54 ?_
      refine lv_icmp_ge (tgt := 106) hx hb dX4_isSameAs_55 (by decide) (fun hc55 => ?_) (fun hc55 => ?_)
      · replace hw := hw.1 hc55
        refine lv_iconst (v := 1) hx hb dX4_isSameAs_106 (by decide) ?_
        exact W.zret (v := 1) (ty := .boolean) hx hb hr rfl (fun t ht hW => ⟨⟨1, M, rfl, hw, by unfold pt_B; rw [ht]; exact hP⟩, hS.F ht⟩) hS.2.2 dX4_isSameAs_107
      · replace hw := hw.2 hc55
        refine lv_aload_n hx hb dX4_isSameAs_58 rfl (lv_at hl 0 rfl) ?_
        refine pt_get F hP (pt_c4 _ hk0) (pt_l4 hk0) inX4 rfl 0 (by decide) kw_267 rfl rfl dX4_isSameAs_59 ?_
        refine lv_iload_n hx hb dX4_isSameAs_62 rfl (lv_at hl 2 rfl) ?_
        have hv63 := hw.1
        replace hw := hw.2
        refine pt_iald F hP (pt_4a hk0) hv63 dX4_isSameAs_63 ?_
        refine lv_bipush (v := 50) hx hb dX4_isSameAs_64 (by decide) ?_
        refine va_mmin hx hb (hml.trans hl.1.symm) hown (F.1.2.2.2.2 _ kw_734) (F.1.2.2.2.2 _ kw_735) (F.1.2.2.2.2 _ kw_68) (F.1.2.2.2.2 _ kw_736) (Nat.le_of_ble_eq_true rfl) (Nat.le_of_ble_eq_true rfl) (Nat.zero_le _) (Nat.zero_le _) dX4_isSameAs_66 ?_
        refine lv_topi (fun r_66 er_66 => ?_)
        replace hw := hw r_66 er_66
        refine lv_aload_n hx hb dX4_isSameAs_69 rfl (lv_at hl 1 rfl) ?_
        refine pt_get F hP (pt_c4 _ hk1) (pt_l4 hk1) inX4 rfl 0 (by decide) kw_267 rfl rfl dX4_isSameAs_70 ?_
        refine lv_iload_n hx hb dX4_isSameAs_73 rfl (lv_at hl 2 rfl) ?_
        have hv74 := hw.1
        replace hw := hw.2
        refine pt_iald F hP (pt_4a hk1) hv74 dX4_isSameAs_74 ?_
        refine lv_bipush (v := 50) hx hb dX4_isSameAs_75 (by decide) ?_
        refine va_mmin hx hb (hml.trans hl.1.symm) hown (F.1.2.2.2.2 _ kw_734) (F.1.2.2.2.2 _ kw_735) (F.1.2.2.2.2 _ kw_68) (F.1.2.2.2.2 _ kw_736) (Nat.le_of_ble_eq_true rfl) (Nat.le_of_ble_eq_true rfl) (Nat.zero_le _) (Nat.zero_le _) dX4_isSameAs_77 ?_
        refine lv_topi (fun r_77 er_77 => ?_)
        replace hw := hw r_77 er_77
        refine lv_icmp_ne (tgt := 98) hx hb dX4_isSameAs_80 (by decide) (fun hc80 => ?_) (fun hc80 => ?_)
        · replace hw := hw.1 hc80
          exact J98 M _ _ _ hw hP hS (lv_sub hl [] rfl)
        · replace hw := hw.2 hc80
          refine lv_aload_n hx hb dX4_isSameAs_83 rfl (lv_at hl 0 rfl) ?_
          refine pt_get F hP (pt_c4 _ hk0) (pt_l4 hk0) inX4 rfl 1 (by decide) kw_270 rfl rfl dX4_isSameAs_84 ?_
          refine lv_iload_n hx hb dX4_isSameAs_87 rfl (lv_at hl 2 rfl) ?_
          have hv88 := hw.1
          replace hw := hw.2
          refine pt_iald F hP (pt_4r hk0) hv88 dX4_isSameAs_88 ?_
          refine lv_aload_n hx hb dX4_isSameAs_89 rfl (lv_at hl 1 rfl) ?_
          refine pt_get F hP (pt_c4 _ hk1) (pt_l4 hk1) inX4 rfl 1 (by decide) kw_270 rfl rfl dX4_isSameAs_90 ?_
          refine lv_iload_n hx hb dX4_isSameAs_93 rfl (lv_at hl 2 rfl) ?_
          have hv94 := hw.1
          replace hw := hw.2
          refine pt_iald F hP (pt_4r hk1) hv94 dX4_isSameAs_94 ?_
          refine lv_icmp_eq (tgt := 100) hx hb dX4_isSameAs_95 (by decide) (fun hc95 => ?_) (fun hc95 => ?_)
          · replace hw := hw.1 hc95
            obtain ⟨x2_100, ex2_100⟩ : ∃ y : Int32, y = x2 + 1 := ⟨_, rfl⟩
            replace hw := hw x2_100 ex2_100
            refine lv_iinc (v := x2_100) (lv' := [(2, .int x2_100), (0, .ref (ad k0)), (1, .ref (ad k1))]) hx hb dX4_isSameAs_100 hl (k := 2) rfl (by rw [ex2_100]; rfl) (by decide) rfl (fun ls hl => ?_)
            refine lv_goto (tgt := 49) hx hb dX4_isSameAs_103 (by decide) ?_
            exact ih49 x2_100 M _ _ _ hw hP hS (lv_sub hl [1, 2, 0] rfl)
          · replace hw := hw.2 hc95
            exact J98 M _ _ _ hw hP hS (lv_sub hl [] rfl)
  have L15 : ∀ (n15 : Nat) (x2 : Int32) (M : pt_M) (H : Heap) (locs : List Loc) (ls : Array Slot), lpX4_isSameAs_15 k0 k1 Q n15 x2 M → va_P D pt_cl (pt_W cA ad M) H → va_S (pt_fr ad s.heap.size) s.heap H locs → lv_has ls 3 [(0, .ref (ad k0)), (1, .ref (ad k1)), (2, .int x2)] → W p l e (headSpec (Cond.code yX4_isSameAs cX4_isSameAs 3 (some .boolean) :: lw_all) ({ frames := 1, cells := 0, slots := 0, locals := 21 } : Room)).room s m ([.ref (ad k0), .ref (ad k1)] : List Value).toArray below meth c H locs 0 0 (MQ below (va_Qi Q (pt_B D cA ad) (pt_fr ad s.heap.size)) ([.ref (ad k0), .ref (ad k1)] : List Value).toArray s 0 0 (pt_fr ad s.heap.size)) (F0 m 15 ls []) := by
    intro n15
    induction n15 with
    | zero => intro x2 M H locs ls hw; exact hw.elim
    | succ n15 ih15 =>
      intro x2 M H locs ls hw hP hS hl
      replace hw : lbX4_isSameAs_15 k0 k1 Q (lpX4_isSameAs_15 k0 k1 Q n15) x2 M := hw
      unfold lbX4_isSameAs_15 at hw
      refine lv_iload_n hx hb dX4_isSameAs_15 rfl (lv_at hl 2 rfl) ?_
      refine lv_aload_n hx hb dX4_isSameAs_16 rfl (lv_at hl 0 rfl) ?_
      refine pt_get F hP (pt_c4 _ hk0) (pt_l4 hk0) inX4 rfl 2 (by decide) kw_273 rfl rfl dX4_isSameAs_17 ?_
      refine pt_alen (v := 4) F hP (pt_4v hk0) rfl dX4_isSameAs_20 ?_
      refine lv_icmp_ge (tgt := 47) hx hb dX4_isSameAs_21 (by decide) (fun hc21 => ?_) (fun hc21 => ?_)
      · replace hw := hw.1 hc21
        refine lv_iconst (v := 0) hx hb dX4_isSameAs_47 (by decide) ?_
        refine lv_istore_n (lv' := [(2, .int 0), (0, .ref (ad k0)), (1, .ref (ad k1))]) hx hb dX4_isSameAs_48 rfl hl (by decide) rfl (fun ls hl => ?_)
        obtain ⟨n_, hw⟩ := hw
        exact L49 n_ 0 M _ _ _ hw hP hS (lv_sub hl [1, 2, 0] rfl)
      · replace hw := hw.2 hc21
        refine lv_aload_n hx hb dX4_isSameAs_24 rfl (lv_at hl 0 rfl) ?_
        refine pt_get F hP (pt_c4 _ hk0) (pt_l4 hk0) inX4 rfl 2 (by decide) kw_273 rfl rfl dX4_isSameAs_25 ?_
        refine lv_iload_n hx hb dX4_isSameAs_28 rfl (lv_at hl 2 rfl) ?_
        have hv29 := hw.1
        replace hw := hw.2
        refine pt_iald F hP (pt_4v hk0) hv29 dX4_isSameAs_29 ?_
        refine lv_aload_n hx hb dX4_isSameAs_30 rfl (lv_at hl 1 rfl) ?_
        refine pt_get F hP (pt_c4 _ hk1) (pt_l4 hk1) inX4 rfl 2 (by decide) kw_273 rfl rfl dX4_isSameAs_31 ?_
        refine lv_iload_n hx hb dX4_isSameAs_34 rfl (lv_at hl 2 rfl) ?_
        have hv35 := hw.1
        replace hw := hw.2
        refine pt_iald F hP (pt_4v hk1) hv35 dX4_isSameAs_35 ?_
        refine lv_icmp_eq (tgt := 41) hx hb dX4_isSameAs_36 (by decide) (fun hc36 => ?_) (fun hc36 => ?_)
        · replace hw := hw.1 hc36
          obtain ⟨x2_41, ex2_41⟩ : ∃ y : Int32, y = x2 + 1 := ⟨_, rfl⟩
          replace hw := hw x2_41 ex2_41
          refine lv_iinc (v := x2_41) (lv' := [(2, .int x2_41), (0, .ref (ad k0)), (1, .ref (ad k1))]) hx hb dX4_isSameAs_41 hl (k := 2) rfl (by rw [ex2_41]; rfl) (by decide) rfl (fun ls hl => ?_)
          refine lv_goto (tgt := 15) hx hb dX4_isSameAs_44 (by decide) ?_
          exact ih15 x2_41 M _ _ _ hw hP hS (lv_sub hl [1, 2, 0] rfl)
        · replace hw := hw.2 hc36
          refine lv_iconst (v := 0) hx hb dX4_isSameAs_39 (by decide) ?_
          exact W.zret (v := 0) (ty := .boolean) hx hb hr rfl (fun t ht hW => ⟨⟨0, M, rfl, hw, by unfold pt_B; rw [ht]; exact hP⟩, hS.F ht⟩) hS.2.2 dX4_isSameAs_40
  unfold wpX4_isSameAs at hw
  refine lv_aload_n hx hb dX4_isSameAs_0 rfl (lv_at hl 0 rfl) ?_
  refine pt_get F hP (pt_c4 _ hk0) (pt_l4 hk0) inX4 rfl 3 (by decide) kw_276 rfl rfl dX4_isSameAs_1 ?_
  refine lv_aload_n hx hb dX4_isSameAs_4 rfl (lv_at hl 1 rfl) ?_
  refine pt_get F hP (pt_c4 _ hk1) (pt_l4 hk1) inX4 rfl 3 (by decide) kw_276 rfl rfl dX4_isSameAs_5 ?_
  refine lv_icmp_eq (tgt := 13) hx hb dX4_isSameAs_8 (by decide) (fun hc8 => ?_) (fun hc8 => ?_)
  · replace hw := hw.1 hc8
    refine lv_iconst (v := 0) hx hb dX4_isSameAs_13 (by decide) ?_
    refine lv_istore_n (lv' := [(2, .int 0), (0, .ref (ad k0)), (1, .ref (ad k1))]) hx hb dX4_isSameAs_14 rfl hl (by decide) rfl (fun ls hl => ?_)
    obtain ⟨n_, hw⟩ := hw
    exact L15 n_ 0 M _ _ _ hw hP hS (lv_sub hl [1, 2, 0] rfl)
  · replace hw := hw.2 hc8
    refine lv_iconst (v := 0) hx hb dX4_isSameAs_11 (by decide) ?_
    exact W.zret (v := 0) (ty := .boolean) hx hb hr rfl (fun t ht hW => ⟨⟨0, M, rfl, hw, by unfold pt_B; rw [ht]; exact hP⟩, hS.F ht⟩) hS.2.2 dX4_isSameAs_12
-- ===== X1_putState
def wjX1_putState_148 (p1 : Int32) (p2 : Int32) (Q : Int32 → pt_M → Prop)  (x3 : Int32) (M : pt_M) : Prop :=
  Q x3 M
def wjX1_putState_130 (p1 : Int32) (p2 : Int32) (Q : Int32 → pt_M → Prop)  (x3 : Int32) (M : pt_M) : Prop :=
  (¬ p2 = 2 → wjX1_putState_148 p1 p2 Q x3 M) ∧ (p2 = 2 → wpX7_setOf x3 M (fun (r_141 : Int32) (M_141 : pt_M) => ∀ M_145 : pt_M, M_145 = pt_st M_141 1 6 ((M 1 6) ||| r_141) → wjX1_putState_148 p1 p2 Q x3 M_145))
def wjX1_putState_86 (p1 : Int32) (p2 : Int32) (Q : Int32 → pt_M → Prop) (R38 : Int32 → Nat → Int32 → pt_M → Prop) (x3 : Int32) (q4 : Nat) (x5 : Int32) (M : pt_M) : Prop :=
  ∀ x5_86 : Int32, x5_86 = x5 + 1 → R38 x3 q4 x5_86 M
def wjX1_putState_67 (p1 : Int32) (p2 : Int32) (Q : Int32 → pt_M → Prop) (R38 : Int32 → Nat → Int32 → pt_M → Prop) (x3 : Int32) (q4 : Nat) (x5 : Int32) (M : pt_M) : Prop :=
  vp_in x5 20 ∧ (wpX7_setOf x3 M (fun (r_79 : Int32) (M_79 : pt_M) => ∀ M_83 : pt_M, M_83 = pt_st M_79 (pt_s x5) 7 ((M (pt_s x5) 7) ||| r_79) → wjX1_putState_86 p1 p2 Q R38 x3 q4 x5 M_83))
def lbX1_putState_38 (p1 : Int32) (p2 : Int32) (Q : Int32 → pt_M → Prop)  (R38 : Int32 → Nat → Int32 → pt_M → Prop) (x3 : Int32) (q4 : Nat) (x5 : Int32) (M : pt_M) : Prop :=
  (x3 ≤ x5 → wpX5_isMark q4 M (fun (r_94 : Int32) (M_94 : pt_M) => (¬ r_94 = 0 → wjX1_putState_130 p1 p2 Q x3 M_94) ∧ (r_94 = 0 → vp_in p1 20 ∧ (wpX5_putPart (pt_s p1) x3 M_94 (fun (M_107 : pt_M) => wpX7_setOf p1 M_107 (fun (r_116 : Int32) (M_116 : pt_M) => wpX7_setOf x3 M_116 (fun (r_123 : Int32) (M_123 : pt_M) => ∀ M_127 : pt_M, M_127 = pt_st M_123 1 5 (((M_107 1 5) &&& (r_116 ^^^ (-1))) ||| r_123) → wjX1_putState_130 p1 p2 Q x3 M_127))))))) ∧ (¬ x3 ≤ x5 → (x5 = p1 → wjX1_putState_67 p1 p2 Q R38 x3 q4 x5 M) ∧ (¬ x5 = p1 → vp_in x5 20 ∧ (wpX7_has (M (pt_s x5) 7) p1 M (fun (r_61 : Int32) (M_61 : pt_M) => (r_61 = 0 → wjX1_putState_86 p1 p2 Q R38 x3 q4 x5 M_61) ∧ (¬ r_61 = 0 → wjX1_putState_67 p1 p2 Q R38 x3 q4 x5 M_61)))))
def lpX1_putState_38 (p1 : Int32) (p2 : Int32) (Q : Int32 → pt_M → Prop)  : Nat → Int32 → Nat → Int32 → pt_M → Prop
  | 0 => fun _ _ _ _ => False
  | n + 1 => fun x3 q4 x5 M => lbX1_putState_38 p1 p2 Q (lpX1_putState_38 p1 p2 Q n) x3 q4 x5 M
def wpX1_putState (p1 : Int32) (p2 : Int32) (M : pt_M) (Q : Int32 → pt_M → Prop) : Prop :=
  ∀ x3_4 : Int32, x3_4 = (M 1 3) → vp_in x3_4 20 ∧ (∀ M_16 : pt_M, M_16 = pt_st M (pt_s x3_4) 2 p2 → ∀ M_22 : pt_M, M_22 = pt_st M_16 (pt_s x3_4) 3 p1 → ∀ M_32 : pt_M, M_32 = pt_st M_22 1 3 ((M_22 1 3) + 1) → ∃ n : Nat, lpX1_putState_38 p1 p2 Q n x3_4 (pt_s x3_4) 0 M_32)
set_option maxHeartbeats 4000000 in
set_option maxRecDepth 100000 in
theorem mtX1_putState (l : Launch) (D : va_G) (cA : Nat → ClassId) (ad : Nat → Nat) (hI : pt_I ad) (sz : Nat) (p1 : Int32) (p2 : Int32) (M : pt_M) (Q : Int32 → pt_M → Prop) (hw : wpX1_putState p1 p2 M Q) : Met l yX1_putState (Cond.code yX1_putState cX1_putState 6 (some .int) :: lw_all) ({ frames := 3, cells := 0, slots := 0, locals := 62 } : Room) (va_Pc [.ref (ad 1), .int p1, .int p2] (pt_P D cA ad sz M)) (va_Qi Q (pt_B D cA ad) (pt_fr ad sz)) 0 0 (pt_fr ad sz) := by
  refine Met.ofW (cc := cX1_putState) (maxL := 6) (ret := (some .int)) (by decide) rfl ?_
  intro p e s m args below meth c s₁ B hml hv
  obtain ⟨rfl, hsz, hP, hK⟩ := hv
  have hx := B.exec
  have hb := B.bytes
  have hr := B.returns
  have hts0 := atoms_spec (ws := (Cond.code yX1_putState cX1_putState 6 (some .int) :: lw_all)) B.pre
  have hown : s.vm.findClass RX1 = some m.cls := findClass_of_methodNamed B.named
  have hlocks := B.notSynchronized
  subst hsz
  have F : pt_F p m c cX1_putState 6 s _ RX1 D cA := ⟨⟨hx, hb, hml, hown, fun w h => hts0 w (List.mem_cons_of_mem _ h)⟩, hK⟩
  have hD : ∀ M, va_D (pt_fr ad s.heap.size) (pt_W cA ad M) := pt_D hI (fun k h => Or.inl ⟨k, h, rfl⟩)
  have hS : va_S (pt_fr ad s.heap.size) s.heap s.heap [] := va_S.rf
  have hl := lv_entry ([.ref (ad 1), .int p1, .int p2]) (n := 6) (Nat.le_of_ble_eq_true rfl)
  rw [lg_entry_eq]
  generalize (lg_sl ([.ref (ad 1), .int p1, .int p2]) ++ List.replicate (6 - (lg_sl ([.ref (ad 1), .int p1, .int p2])).length) Slot.unset).toArray = ls at hl ⊢
  have hl : lv_has ls 6 [(0, .ref (ad 1)), (1, .int p1), (2, .int p2)] := hl
  have J148 : ∀ (x3 : Int32) (M : pt_M) (H : Heap) (locs : List Loc) (ls : Array Slot), wjX1_putState_148 p1 p2 Q x3 M → va_P D pt_cl (pt_W cA ad M) H → va_S (pt_fr ad s.heap.size) s.heap H locs → lv_has ls 6 [(3, .int x3)] → W p l e (headSpec (Cond.code yX1_putState cX1_putState 6 (some .int) :: lw_all) ({ frames := 3, cells := 0, slots := 0, locals := 62 } : Room)).room s m ([.ref (ad 1), .int p1, .int p2] : List Value).toArray below meth c H locs 0 0 (MQ below (va_Qi Q (pt_B D cA ad) (pt_fr ad s.heap.size)) ([.ref (ad 1), .int p1, .int p2] : List Value).toArray s 0 0 (pt_fr ad s.heap.size)) (F0 m 148 ls []) := by
    intro x3 M H locs ls hw hP hS hl
    unfold wjX1_putState_148 at hw
    refine lv_iload_n hx hb dX1_putState_148 rfl (lv_at hl 0 rfl) ?_
    exact W.iret (v := x3) hx hb hr (fun t ht hW => ⟨⟨x3, M, rfl, hw, by unfold pt_B; rw [ht]; exact hP⟩, hS.F ht⟩) hS.2.2 dX1_putState_149
  have J130 : ∀ (x3 : Int32) (M : pt_M) (H : Heap) (locs : List Loc) (ls : Array Slot), wjX1_putState_130 p1 p2 Q x3 M → va_P D pt_cl (pt_W cA ad M) H → va_S (pt_fr ad s.heap.size) s.heap H locs → lv_has ls 6 [(0, .ref (ad 1)), (2, .int p2), (3, .int x3)] → W p l e (headSpec (Cond.code yX1_putState cX1_putState 6 (some .int) :: lw_all) ({ frames := 3, cells := 0, slots := 0, locals := 62 } : Room)).room s m ([.ref (ad 1), .int p1, .int p2] : List Value).toArray below meth c H locs 0 0 (MQ below (va_Qi Q (pt_B D cA ad) (pt_fr ad s.heap.size)) ([.ref (ad 1), .int p1, .int p2] : List Value).toArray s 0 0 (pt_fr ad s.heap.size)) (F0 m 130 ls []) := by
    intro x3 M H locs ls hw hP hS hl
    unfold wjX1_putState_130 at hw
    refine lv_iload_n hx hb dX1_putState_130 rfl (lv_at hl 1 rfl) ?_
    refine lv_iconst (v := 2) hx hb dX1_putState_131 (by decide) ?_
    refine lv_icmp_ne (tgt := 148) hx hb dX1_putState_132 (by decide) (fun hc132 => ?_) (fun hc132 => ?_)
    · replace hw := hw.1 hc132
      exact J148 x3 M _ _ _ hw hP hS (lv_sub hl [2] rfl)
    · replace hw := hw.2 hc132
      refine lv_aload_n hx hb dX1_putState_135 rfl (lv_at hl 0 rfl) ?_
      refine lv_dup hx hb dX1_putState_136 rfl ?_
      refine pt_get F hP (pt_c1 _ pt_k1) (pt_l1 pt_k1) inX1 rfl 6 (by decide) kw_238 rfl rfl dX1_putState_137 ?_
      refine lv_iload_n hx hb dX1_putState_140 rfl (lv_at hl 2 rfl) ?_
      refine pt_calli (pt_runSN (n := 1) (As := [.int x3]) (rest := [.int (M 1 6), .ref (ad 1)]) F hP (mtX7_setOf l D cA ad hI _ x3 M _ hw) kw_103 kw_101 kw_52 kw_102 ⟨by decide, by decide, by decide +kernel⟩ ⟨rfl, rfl, Nat.le_of_ble_eq_true rfl, Nat.le_of_ble_eq_true rfl⟩ rfl hl.1 rfl (Nat.le_of_ble_eq_true rfl) dX1_putState_141 ⟨Nat.zero_le _, Nat.zero_le _⟩) hS (fun _ h => h) (fun r_141 M_141 H locs hw hP hS _ _ => ?_)
      refine lv_ior hx hb dX1_putState_144 ?_
      refine pt_put F hP hD hS (pt_c1 _ pt_k1) (pt_l1 pt_k1) inX1 tyX1 tyX1_ok nmX1 rfl 6 (by decide) kw_238 rfl rfl rfl rfl (Nat.le_of_ble_eq_true rfl) (pt_c1 _ pt_k1) dX1_putState_145 (fun M_145 H locs eM_145 hP hS => ?_)
      replace hw := hw M_145 eM_145
      exact J148 x3 M_145 _ _ _ hw hP hS (lv_sub hl [2] rfl)
  have L38 : ∀ (n38 : Nat) (x3 : Int32) (q4 : Nat) (hq4 : pt_kd q4 = 5) (x5 : Int32) (M : pt_M) (H : Heap) (locs : List Loc) (ls : Array Slot), lpX1_putState_38 p1 p2 Q n38 x3 q4 x5 M → va_P D pt_cl (pt_W cA ad M) H → va_S (pt_fr ad s.heap.size) s.heap H locs → lv_has ls 6 [(0, .ref (ad 1)), (1, .int p1), (2, .int p2), (3, .int x3), (4, .ref (ad q4)), (5, .int x5)] → W p l e (headSpec (Cond.code yX1_putState cX1_putState 6 (some .int) :: lw_all) ({ frames := 3, cells := 0, slots := 0, locals := 62 } : Room)).room s m ([.ref (ad 1), .int p1, .int p2] : List Value).toArray below meth c H locs 0 0 (MQ below (va_Qi Q (pt_B D cA ad) (pt_fr ad s.heap.size)) ([.ref (ad 1), .int p1, .int p2] : List Value).toArray s 0 0 (pt_fr ad s.heap.size)) (F0 m 38 ls []) := by
    intro n38
    induction n38 with
    | zero => intro x3 q4 hq4 x5 M H locs ls hw; exact hw.elim
    | succ n38 ih38 =>
      have J86 : ∀ (x3 : Int32) (q4 : Nat) (hq4 : pt_kd q4 = 5) (x5 : Int32) (M : pt_M) (H : Heap) (locs : List Loc) (ls : Array Slot), wjX1_putState_86 p1 p2 Q (lpX1_putState_38 p1 p2 Q n38) x3 q4 x5 M → va_P D pt_cl (pt_W cA ad M) H → va_S (pt_fr ad s.heap.size) s.heap H locs → lv_has ls 6 [(0, .ref (ad 1)), (1, .int p1), (2, .int p2), (3, .int x3), (4, .ref (ad q4)), (5, .int x5)] → W p l e (headSpec (Cond.code yX1_putState cX1_putState 6 (some .int) :: lw_all) ({ frames := 3, cells := 0, slots := 0, locals := 62 } : Room)).room s m ([.ref (ad 1), .int p1, .int p2] : List Value).toArray below meth c H locs 0 0 (MQ below (va_Qi Q (pt_B D cA ad) (pt_fr ad s.heap.size)) ([.ref (ad 1), .int p1, .int p2] : List Value).toArray s 0 0 (pt_fr ad s.heap.size)) (F0 m 86 ls []) := by
        intro x3 q4 hq4 x5 M H locs ls hw hP hS hl
        unfold wjX1_putState_86 at hw
        obtain ⟨x5_86, ex5_86⟩ : ∃ y : Int32, y = x5 + 1 := ⟨_, rfl⟩
        replace hw := hw x5_86 ex5_86
        refine lv_iinc (v := x5_86) (lv' := [(5, .int x5_86), (0, .ref (ad 1)), (1, .int p1), (2, .int p2), (3, .int x3), (4, .ref (ad q4))]) hx hb dX1_putState_86 hl (k := 5) rfl (by rw [ex5_86]; rfl) (by decide) rfl (fun ls hl => ?_)
        refine lv_goto (tgt := 38) hx hb dX1_putState_89 (by decide) ?_
        exact ih38 x3 q4 hq4 x5_86 M _ _ _ hw hP hS (lv_sub hl [1, 2, 3, 4, 5, 0] rfl)
      have J67 : ∀ (x3 : Int32) (q4 : Nat) (hq4 : pt_kd q4 = 5) (x5 : Int32) (M : pt_M) (H : Heap) (locs : List Loc) (ls : Array Slot), wjX1_putState_67 p1 p2 Q (lpX1_putState_38 p1 p2 Q n38) x3 q4 x5 M → va_P D pt_cl (pt_W cA ad M) H → va_S (pt_fr ad s.heap.size) s.heap H locs → lv_has ls 6 [(0, .ref (ad 1)), (1, .int p1), (2, .int p2), (3, .int x3), (4, .ref (ad q4)), (5, .int x5)] → W p l e (headSpec (Cond.code yX1_putState cX1_putState 6 (some .int) :: lw_all) ({ frames := 3, cells := 0, slots := 0, locals := 62 } : Room)).room s m ([.ref (ad 1), .int p1, .int p2] : List Value).toArray below meth c H locs 0 0 (MQ below (va_Qi Q (pt_B D cA ad) (pt_fr ad s.heap.size)) ([.ref (ad 1), .int p1, .int p2] : List Value).toArray s 0 0 (pt_fr ad s.heap.size)) (F0 m 67 ls []) := by
        intro x3 q4 hq4 x5 M H locs ls hw hP hS hl
        unfold wjX1_putState_67 at hw
        refine lv_aload_n hx hb dX1_putState_67 rfl (lv_at hl 0 rfl) ?_
        refine pt_get F hP (pt_c1 _ pt_k1) (pt_l1 pt_k1) inX1 rfl 0 (by decide) kw_222 rfl rfl dX1_putState_68 ?_
        refine lv_iload hx hb dX1_putState_71 (lv_at hl 5 rfl) ?_
        have hv73 := hw.1
        replace hw := hw.2
        refine pt_alds F hP hv73 dX1_putState_73 ?_
        refine lv_dup hx hb dX1_putState_74 rfl ?_
        refine pt_get F hP (pt_c5 _ (pt_ks hv73)) (pt_l5 (pt_ks hv73)) inX5 rfl 7 (by decide) kw_152 rfl rfl dX1_putState_75 ?_
        refine lv_iload_n hx hb dX1_putState_78 rfl (lv_at hl 3 rfl) ?_
        refine pt_calli (pt_runSN (n := 1) (As := [.int x3]) (rest := [.int (M (pt_s x5) 7), .ref (ad (pt_s x5))]) F hP (mtX7_setOf l D cA ad hI _ x3 M _ hw) kw_103 kw_101 kw_52 kw_102 ⟨by decide, by decide, by decide +kernel⟩ ⟨rfl, rfl, Nat.le_of_ble_eq_true rfl, Nat.le_of_ble_eq_true rfl⟩ rfl hl.1 rfl (Nat.le_of_ble_eq_true rfl) dX1_putState_79 ⟨Nat.zero_le _, Nat.zero_le _⟩) hS (fun _ h => h) (fun r_79 M_79 H locs hw hP hS _ _ => ?_)
        refine lv_ior hx hb dX1_putState_82 ?_
        refine pt_put F hP hD hS (pt_c5 _ (pt_ks hv73)) (pt_l5 (pt_ks hv73)) inX5 tyX5 tyX5_ok nmX5 rfl 7 (by decide) kw_152 rfl rfl rfl rfl (Nat.le_of_ble_eq_true rfl) (pt_c5 _ (pt_ks hv73)) dX1_putState_83 (fun M_83 H locs eM_83 hP hS => ?_)
        replace hw := hw M_83 eM_83
        exact J86 x3 q4 hq4 x5 M_83 _ _ _ hw hP hS (lv_sub hl [0, 1, 2, 3, 4, 5] rfl)
      intro x3 q4 hq4 x5 M H locs ls hw hP hS hl
      replace hw : lbX1_putState_38 p1 p2 Q (lpX1_putState_38 p1 p2 Q n38) x3 q4 x5 M := hw
      unfold lbX1_putState_38 at hw
      refine lv_iload hx hb dX1_putState_38 (lv_at hl 5 rfl) ?_
      refine lv_iload_n hx hb dX1_putState_40 rfl (lv_at hl 3 rfl) ?_
      refine lv_icmp_ge (tgt := 92) hx hb dX1_putState_41 (by decide) (fun hc41 => ?_) (fun hc41 => ?_)
      · replace hw := hw.1 hc41
        refine lv_aload hx hb dX1_putState_92 (lv_at hl 4 rfl) ?_
        refine pt_calli (pt_runV (n := 0) (As := []) (rest := []) F hP (pt_c5 _ hq4) (pt_l5 hq4) rfl (mtX5_isMark l D cA ad hI _ q4 hq4 M _ hw) kw_567 kw_619 kw_54 kw_565 kw_566 ⟨by decide, by decide, by decide +kernel⟩ ⟨rfl, rfl, Nat.le_of_ble_eq_true rfl, Nat.le_of_ble_eq_true rfl⟩ rfl hl.1 rfl (Nat.le_of_ble_eq_true rfl) dX1_putState_94 ⟨Nat.zero_le _, Nat.zero_le _⟩) hS (fun _ h => h) (fun r_94 M_94 H locs hw hP hS _ _ => ?_)
        refine lv_if_ne (tgt := 130) hx hb dX1_putState_97 (by decide) (fun hc97 => ?_) (fun hc97 => ?_)
        · replace hw := hw.1 hc97
          exact J130 x3 M_94 _ _ _ hw hP hS (lv_sub hl [0, 2, 3] rfl)
        · replace hw := hw.2 hc97
          refine lv_aload_n hx hb dX1_putState_100 rfl (lv_at hl 0 rfl) ?_
          refine pt_get F hP (pt_c1 _ pt_k1) (pt_l1 pt_k1) inX1 rfl 0 (by decide) kw_222 rfl rfl dX1_putState_101 ?_
          refine lv_iload_n hx hb dX1_putState_104 rfl (lv_at hl 1 rfl) ?_
          have hv105 := hw.1
          replace hw := hw.2
          refine pt_alds F hP hv105 dX1_putState_105 ?_
          refine lv_iload_n hx hb dX1_putState_106 rfl (lv_at hl 3 rfl) ?_
          refine pt_callv (pt_runV (n := 1) (As := [.int x3]) (rest := []) F hP (pt_c5 _ (pt_ks hv105)) (pt_l5 (pt_ks hv105)) rfl (mtX5_putPart l D cA ad hI _ (pt_s p1) (pt_ks hv105) x3 M_94 _ hw) kw_623 kw_620 kw_54 kw_621 kw_622 ⟨by decide, by decide, by decide +kernel⟩ ⟨rfl, rfl, Nat.le_of_ble_eq_true rfl, Nat.le_of_ble_eq_true rfl⟩ rfl hl.1 rfl (Nat.le_of_ble_eq_true rfl) dX1_putState_107 ⟨Nat.zero_le _, Nat.zero_le _⟩) hS (fun _ h => h) (fun M_107 H locs hw hP hS _ _ => ?_)
          refine lv_aload_n hx hb dX1_putState_110 rfl (lv_at hl 0 rfl) ?_
          refine lv_aload_n hx hb dX1_putState_111 rfl (lv_at hl 0 rfl) ?_
          refine pt_get F hP (pt_c1 _ pt_k1) (pt_l1 pt_k1) inX1 rfl 5 (by decide) kw_236 rfl rfl dX1_putState_112 ?_
          refine lv_iload_n hx hb dX1_putState_115 rfl (lv_at hl 1 rfl) ?_
          refine pt_calli (pt_runSN (n := 1) (As := [.int p1]) (rest := [.int (M_107 1 5), .ref (ad 1)]) F hP (mtX7_setOf l D cA ad hI _ p1 M_107 _ hw) kw_103 kw_101 kw_52 kw_102 ⟨by decide, by decide, by decide +kernel⟩ ⟨rfl, rfl, Nat.le_of_ble_eq_true rfl, Nat.le_of_ble_eq_true rfl⟩ rfl hl.1 rfl (Nat.le_of_ble_eq_true rfl) dX1_putState_116 ⟨Nat.zero_le _, Nat.zero_le _⟩) hS (fun _ h => h) (fun r_116 M_116 H locs hw hP hS _ _ => ?_)
          refine lv_iconst (v := (-1)) hx hb dX1_putState_119 (by decide) ?_
          refine lv_ixor hx hb dX1_putState_120 ?_
          refine lv_iand hx hb dX1_putState_121 ?_
          refine lv_iload_n hx hb dX1_putState_122 rfl (lv_at hl 3 rfl) ?_
          refine pt_calli (pt_runSN (n := 1) (As := [.int x3]) (rest := [.int ((M_107 1 5) &&& (r_116 ^^^ (-1))), .ref (ad 1)]) F hP (mtX7_setOf l D cA ad hI _ x3 M_116 _ hw) kw_103 kw_101 kw_52 kw_102 ⟨by decide, by decide, by decide +kernel⟩ ⟨rfl, rfl, Nat.le_of_ble_eq_true rfl, Nat.le_of_ble_eq_true rfl⟩ rfl hl.1 rfl (Nat.le_of_ble_eq_true rfl) dX1_putState_123 ⟨Nat.zero_le _, Nat.zero_le _⟩) hS (fun _ h => h) (fun r_123 M_123 H locs hw hP hS _ _ => ?_)
          refine lv_ior hx hb dX1_putState_126 ?_
          refine pt_put F hP hD hS (pt_c1 _ pt_k1) (pt_l1 pt_k1) inX1 tyX1 tyX1_ok nmX1 rfl 5 (by decide) kw_236 rfl rfl rfl rfl (Nat.le_of_ble_eq_true rfl) (pt_c1 _ pt_k1) dX1_putState_127 (fun M_127 H locs eM_127 hP hS => ?_)
          replace hw := hw M_127 eM_127
          exact J130 x3 M_127 _ _ _ hw hP hS (lv_sub hl [0, 2, 3] rfl)
      · replace hw := hw.2 hc41
        refine lv_iload hx hb dX1_putState_44 (lv_at hl 5 rfl) ?_
        refine lv_iload_n hx hb dX1_putState_46 rfl (lv_at hl 1 rfl) ?_
        refine lv_icmp_eq (tgt := 67) hx hb dX1_putState_47 (by decide) (fun hc47 => ?_) (fun hc47 => ?_)
        · replace hw := hw.1 hc47
          exact J67 x3 q4 hq4 x5 M _ _ _ hw hP hS (lv_sub hl [0, 1, 2, 3, 4, 5] rfl)
        · replace hw := hw.2 hc47
          refine lv_aload_n hx hb dX1_putState_50 rfl (lv_at hl 0 rfl) ?_
          refine pt_get F hP (pt_c1 _ pt_k1) (pt_l1 pt_k1) inX1 rfl 0 (by decide) kw_222 rfl rfl dX1_putState_51 ?_
          refine lv_iload hx hb dX1_putState_54 (lv_at hl 5 rfl) ?_
          have hv56 := hw.1
          replace hw := hw.2
          refine pt_alds F hP hv56 dX1_putState_56 ?_
          refine pt_get F hP (pt_c5 _ (pt_ks hv56)) (pt_l5 (pt_ks hv56)) inX5 rfl 7 (by decide) kw_152 rfl rfl dX1_putState_57 ?_
          refine lv_iload_n hx hb dX1_putState_60 rfl (lv_at hl 1 rfl) ?_
          refine pt_calli (pt_runSN (n := 2) (As := [.int (M (pt_s x5) 7), .int p1]) (rest := []) F hP (mtX7_has l D cA ad hI _ (M (pt_s x5) 7) p1 M _ hw) kw_449 kw_618 kw_52 kw_448 ⟨by decide, by decide, by decide +kernel⟩ ⟨rfl, rfl, Nat.le_of_ble_eq_true rfl, Nat.le_of_ble_eq_true rfl⟩ rfl hl.1 rfl (Nat.le_of_ble_eq_true rfl) dX1_putState_61 ⟨Nat.zero_le _, Nat.zero_le _⟩) hS (fun _ h => h) (fun r_61 M_61 H locs hw hP hS _ _ => ?_)
          refine lv_if_eq (tgt := 86) hx hb dX1_putState_64 (by decide) (fun hc64 => ?_) (fun hc64 => ?_)
          · replace hw := hw.1 hc64
            exact J86 x3 q4 hq4 x5 M_61 _ _ _ hw hP hS (lv_sub hl [0, 1, 2, 3, 4, 5] rfl)
          · replace hw := hw.2 hc64
            exact J67 x3 q4 hq4 x5 M_61 _ _ _ hw hP hS (lv_sub hl [0, 1, 2, 3, 4, 5] rfl)
  unfold wpX1_putState at hw
  refine lv_aload_n hx hb dX1_putState_0 rfl (lv_at hl 0 rfl) ?_
  refine pt_get F hP (pt_c1 _ pt_k1) (pt_l1 pt_k1) inX1 rfl 3 (by decide) kw_230 rfl rfl dX1_putState_1 ?_
  refine lv_topi (fun x3_4 ex3_4 => ?_)
  replace hw := hw x3_4 ex3_4
  refine lv_istore_n (lv' := [(3, .int x3_4), (0, .ref (ad 1)), (1, .int p1), (2, .int p2)]) hx hb dX1_putState_4 rfl hl (by decide) rfl (fun ls hl => ?_)
  refine lv_aload_n hx hb dX1_putState_5 rfl (lv_at hl 1 rfl) ?_
  refine pt_get F hP (pt_c1 _ pt_k1) (pt_l1 pt_k1) inX1 rfl 0 (by decide) kw_222 rfl rfl dX1_putState_6 ?_
  refine lv_iload_n hx hb dX1_putState_9 rfl (lv_at hl 0 rfl) ?_
  have hv10 := hw.1
  replace hw := hw.2
  refine pt_alds F hP hv10 dX1_putState_10 ?_
  refine lv_astore (lv' := [(4, .ref (ad (pt_s x3_4))), (3, .int x3_4), (0, .ref (ad 1)), (1, .int p1), (2, .int p2)]) hx hb dX1_putState_11 hl (by decide) rfl (fun ls hl => ?_)
  refine lv_aload hx hb dX1_putState_13 (lv_at hl 0 rfl) ?_
  refine lv_iload_n hx hb dX1_putState_15 rfl (lv_at hl 4 rfl) ?_
  refine pt_put F hP hD hS (pt_c5 _ (pt_ks hv10)) (pt_l5 (pt_ks hv10)) inX5 tyX5 tyX5_ok nmX5 rfl 2 (by decide) kw_136 rfl rfl rfl rfl (Nat.le_of_ble_eq_true rfl) (pt_c5 _ (pt_ks hv10)) dX1_putState_16 (fun M_16 H locs eM_16 hP hS => ?_)
  replace hw := hw M_16 eM_16
  refine lv_aload hx hb dX1_putState_19 (lv_at hl 0 rfl) ?_
  refine lv_iload_n hx hb dX1_putState_21 rfl (lv_at hl 3 rfl) ?_
  refine pt_put F hP hD hS (pt_c5 _ (pt_ks hv10)) (pt_l5 (pt_ks hv10)) inX5 tyX5 tyX5_ok nmX5 rfl 3 (by decide) kw_140 rfl rfl rfl rfl (Nat.le_of_ble_eq_true rfl) (pt_c5 _ (pt_ks hv10)) dX1_putState_22 (fun M_22 H locs eM_22 hP hS => ?_)
  replace hw := hw M_22 eM_22
  refine lv_aload_n hx hb dX1_putState_25 rfl (lv_at hl 2 rfl) ?_
  refine lv_dup hx hb dX1_putState_26 rfl ?_
  refine pt_get F hP (pt_c1 _ pt_k1) (pt_l1 pt_k1) inX1 rfl 3 (by decide) kw_230 rfl rfl dX1_putState_27 ?_
  refine lv_iconst (v := 1) hx hb dX1_putState_30 (by decide) ?_
  refine lv_iadd hx hb dX1_putState_31 ?_
  refine pt_put F hP hD hS (pt_c1 _ pt_k1) (pt_l1 pt_k1) inX1 tyX1 tyX1_ok nmX1 rfl 3 (by decide) kw_230 rfl rfl rfl rfl (Nat.le_of_ble_eq_true rfl) (pt_c1 _ pt_k1) dX1_putState_32 (fun M_32 H locs eM_32 hP hS => ?_)
  replace hw := hw M_32 eM_32
  refine lv_iconst (v := 0) hx hb dX1_putState_35 (by decide) ?_
  refine lv_istore (lv' := [(5, .int 0), (4, .ref (ad (pt_s x3_4))), (3, .int x3_4), (0, .ref (ad 1)), (1, .int p1), (2, .int p2)]) hx hb dX1_putState_36 hl (by decide) rfl (fun ls hl => ?_)
  obtain ⟨n_, hw⟩ := hw
  exact L38 n_ x3_4 (pt_s x3_4) (pt_ks hv10) 0 M_32 _ _ _ hw hP hS (lv_sub hl [3, 4, 5, 2, 1, 0] rfl)
-- ===== X1_causeOf
def wjX1_causeOf_18 (p1 : Int32) (p2 : Int32) (Q : Int32 → pt_M → Prop)  (xs0 : Int32) (M : pt_M) : Prop :=
  Q xs0 M
def wpX1_causeOf (p1 : Int32) (p2 : Int32) (M : pt_M) (Q : Int32 → pt_M → Prop) : Prop :=
  (¬ p1 = 0 → (¬ p1 = 1 → wjX1_causeOf_18 p1 p2 Q 11 M) ∧ (p1 = 1 → wjX1_causeOf_18 p1 p2 Q 10 M)) ∧ (p1 = 0 → Q p2 M)
set_option maxHeartbeats 4000000 in
set_option maxRecDepth 100000 in
theorem mtX1_causeOf (l : Launch) (D : va_G) (cA : Nat → ClassId) (ad : Nat → Nat) (hI : pt_I ad) (sz : Nat) (p1 : Int32) (p2 : Int32) (M : pt_M) (Q : Int32 → pt_M → Prop) (hw : wpX1_causeOf p1 p2 M Q) : Met l yX1_causeOf (Cond.code yX1_causeOf cX1_causeOf 2 (some .int) :: lw_all) ({ frames := 0, cells := 0, slots := 0, locals := 0 } : Room) (va_Pc [.int p1, .int p2] (pt_P D cA ad sz M)) (va_Qi Q (pt_B D cA ad) (pt_fr ad sz)) 0 0 (pt_fr ad sz) := by
  refine Met.ofW (cc := cX1_causeOf) (maxL := 2) (ret := (some .int)) (by decide) rfl ?_
  intro p e s m args below meth c s₁ B hml hv
  obtain ⟨rfl, hsz, hP, hK⟩ := hv
  have hx := B.exec
  have hb := B.bytes
  have hr := B.returns
  have hts0 := atoms_spec (ws := (Cond.code yX1_causeOf cX1_causeOf 2 (some .int) :: lw_all)) B.pre
  have hown : s.vm.findClass RX1 = some m.cls := findClass_of_methodNamed B.named
  have hlocks := B.notSynchronized
  subst hsz
  have F : pt_F p m c cX1_causeOf 2 s _ RX1 D cA := ⟨⟨hx, hb, hml, hown, fun w h => hts0 w (List.mem_cons_of_mem _ h)⟩, hK⟩
  have hD : ∀ M, va_D (pt_fr ad s.heap.size) (pt_W cA ad M) := pt_D hI (fun k h => Or.inl ⟨k, h, rfl⟩)
  have hS : va_S (pt_fr ad s.heap.size) s.heap s.heap [] := va_S.rf
  have hl := lv_entry ([.int p1, .int p2]) (n := 2) (Nat.le_of_ble_eq_true rfl)
  rw [lg_entry_eq]
  generalize (lg_sl ([.int p1, .int p2]) ++ List.replicate (2 - (lg_sl ([.int p1, .int p2])).length) Slot.unset).toArray = ls at hl ⊢
  have hl : lv_has ls 2 [(0, .int p1), (1, .int p2)] := hl
  have J18 : ∀ (xs0 : Int32) (M : pt_M) (H : Heap) (locs : List Loc) (ls : Array Slot), wjX1_causeOf_18 p1 p2 Q xs0 M → va_P D pt_cl (pt_W cA ad M) H → va_S (pt_fr ad s.heap.size) s.heap H locs → lv_has ls 2 [] → W p l e (headSpec (Cond.code yX1_causeOf cX1_causeOf 2 (some .int) :: lw_all) ({ frames := 0, cells := 0, slots := 0, locals := 0 } : Room)).room s m ([.int p1, .int p2] : List Value).toArray below meth c H locs 0 0 (MQ below (va_Qi Q (pt_B D cA ad) (pt_fr ad s.heap.size)) ([.int p1, .int p2] : List Value).toArray s 0 0 (pt_fr ad s.heap.size)) (F0 m 18 ls [.int xs0]) := by
    intro xs0 M H locs ls hw hP hS hl
    unfold wjX1_causeOf_18 at hw
    exact W.iret (v := xs0) hx hb hr (fun t ht hW => ⟨⟨xs0, M, rfl, hw, by unfold pt_B; rw [ht]; exact hP⟩, hS.F ht⟩) hS.2.2 dX1_causeOf_18
  unfold wpX1_causeOf at hw
  refine lv_iload_n hx hb dX1_causeOf_0 rfl (lv_at hl 0 rfl) ?_
  refine lv_if_ne (tgt := 6) hx hb dX1_causeOf_1 (by decide) (fun hc1 => ?_) (fun hc1 => ?_)
  · replace hw := hw.1 hc1
    refine lv_iload_n hx hb dX1_causeOf_6 rfl (lv_at hl 0 rfl) ?_
    refine lv_iconst (v := 1) hx hb dX1_causeOf_7 (by decide) ?_
    refine lv_icmp_ne (tgt := 16) hx hb dX1_causeOf_8 (by decide) (fun hc8 => ?_) (fun hc8 => ?_)
    · replace hw := hw.1 hc8
      refine lv_bipush (v := 11) hx hb dX1_causeOf_16 (by decide) ?_
      exact J18 11 M _ _ _ hw hP hS (lv_sub hl [] rfl)
    · replace hw := hw.2 hc8
      refine lv_bipush (v := 10) hx hb dX1_causeOf_11 (by decide) ?_
      refine lv_goto (tgt := 18) hx hb dX1_causeOf_13 (by decide) ?_
      exact J18 10 M _ _ _ hw hP hS (lv_sub hl [] rfl)
  · replace hw := hw.2 hc1
    refine lv_iload_n hx hb dX1_causeOf_4 rfl (lv_at hl 1 rfl) ?_
    exact W.iret (v := p2) hx hb hr (fun t ht hW => ⟨⟨p2, M, rfl, hw, by unfold pt_B; rw [ht]; exact hP⟩, hS.F ht⟩) hS.2.2 dX1_causeOf_5
