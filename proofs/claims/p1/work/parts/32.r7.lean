-- ===== X12_open
def lbX12_open_29  (Q : Int32 → pt_M → Prop)  (R29 : Int32 → Int32 → pt_M → Prop) (x1 : Int32) (x2 : Int32) (M : pt_M) : Prop :=
  (10 ≤ x2 → Q x1 M) ∧ (¬ 10 ≤ x2 → wpJx4a65c_size_8abf5 5 M (fun (r_45 : Int32) (M_45 : pt_M) => (r_45 ≤ 0 → ∀ x2_93 : Int32, x2_93 = x2 + 1 → R29 x1 x2_93 M_45) ∧ (¬ r_45 ≤ 0 → False)))
def lpX12_open_29  (Q : Int32 → pt_M → Prop)  : Nat → Int32 → Int32 → pt_M → Prop
  | 0 => fun _ _ _ => False
  | n + 1 => fun x1 x2 M => lbX12_open_29 Q (lpX12_open_29 Q n) x1 x2 M
def wjX12_open_16  (Q : Int32 → pt_M → Prop)  (xs1 : Int32) (M : pt_M) : Prop :=
  wpX12_start xs1 1 M (fun (r_17 : Int32) (M_17 : pt_M) => (r_17 = 0 → ∃ n : Nat, lpX12_open_29 Q n 0 0 M_17) ∧ (¬ r_17 = 0 → Q 0 M_17))
def wpX12_open  (M : pt_M) (Q : Int32 → pt_M → Prop) : Prop :=
  (¬ (M 6 0) = 0 → wjX12_open_16 Q 0 M) ∧ ((M 6 0) = 0 → wjX12_open_16 Q 1 M)
set_option maxHeartbeats 4000000 in
set_option maxRecDepth 100000 in
theorem mtX12_open (l : Launch) (D : va_G) (cA : Nat → ClassId) (ad : Nat → Nat) (hI : rt_I ad) (sz : Nat) (M : pt_M) (Q : Int32 → pt_M → Prop) (hw : wpX12_open M Q) : Met l yX12_open (Cond.code yX12_open cX12_open 4 (some .int) :: lw_all) ({ frames := 2, cells := 0, slots := 0, locals := 44 } : Room) (va_Pc [.ref (ad 0)] (rt_P D cA ad sz M)) (va_Qi Q (rt_B D cA ad) (rt_fr ad sz)) 0 0 (rt_fr ad sz) := by
  refine Met.ofW (cc := cX12_open) (maxL := 4) (ret := (some .int)) (by decide) rfl ?_
  intro p e s m args below meth c s₁ B hml hv
  obtain ⟨rfl, hsz, hP, hK, hN⟩ := hv
  have hx := B.exec
  have hb := B.bytes
  have hr := B.returns
  have hts0 := atoms_spec (ws := (Cond.code yX12_open cX12_open 4 (some .int) :: lw_all)) B.pre
  have hown : s.vm.findClass RX12 = some m.cls := findClass_of_methodNamed B.named
  have hlocks := B.notSynchronized
  subst hsz
  have F : pt_F p m c cX12_open 4 s _ RX12 D cA := ⟨⟨hx, hb, hml, hown, fun w h => hts0 w (List.mem_cons_of_mem _ h)⟩, hK⟩
  have hD : ∀ M, va_D (rt_fr ad s.heap.size) (rt_W cA ad M) := rt_D hI (fun k h => Or.inl ⟨k, h, rfl⟩)
  have hS : va_S (rt_fr ad s.heap.size) s.heap s.heap [] := va_S.rf
  have hl := lv_entry ([.ref (ad 0)]) (n := 4) (Nat.le_of_ble_eq_true rfl)
  rw [lg_entry_eq]
  generalize (lg_sl ([.ref (ad 0)]) ++ List.replicate (4 - (lg_sl ([.ref (ad 0)])).length) Slot.unset).toArray = ls at hl ⊢
  have hl : lv_has ls 4 [(0, .ref (ad 0))] := hl
  have L29 : ∀ (n29 : Nat) (x1 : Int32) (x2 : Int32) (M : pt_M) (H : Heap) (locs : List Loc) (ls : Array Slot), lpX12_open_29 Q n29 x1 x2 M → va_P D pt_cl (rt_W cA ad M) H → va_S (rt_fr ad s.heap.size) s.heap H locs → lv_has ls 4 [(0, .ref (ad 0)), (1, .int x1), (2, .int x2)] → W p l e (headSpec (Cond.code yX12_open cX12_open 4 (some .int) :: lw_all) ({ frames := 2, cells := 0, slots := 0, locals := 44 } : Room)).room s m ([.ref (ad 0)] : List Value).toArray below meth c H locs 0 0 (MQ below (va_Qi Q (rt_B D cA ad) (rt_fr ad s.heap.size)) ([.ref (ad 0)] : List Value).toArray s 0 0 (rt_fr ad s.heap.size)) (F0 m 29 ls []) := by
    intro n29
    induction n29 with
    | zero => intro x1 x2 M H locs ls hw; exact hw.elim
    | succ n29 ih29 =>
      intro x1 x2 M H locs ls hw hP hS hl
      replace hw : lbX12_open_29 Q (lpX12_open_29 Q n29) x1 x2 M := hw
      unfold lbX12_open_29 at hw
      refine lv_iload_n hx hb dX12_open_29 rfl (lv_at hl 2 rfl) ?_
      refine lv_bipush (v := 10) hx hb dX12_open_30 (by decide) ?_
      refine lv_icmp_ge (tgt := 99) hx hb dX12_open_32 (by decide) (fun hc32 => ?_) (fun hc32 => ?_)
      · replace hw := hw.1 hc32
        refine lv_iload_n hx hb dX12_open_99 rfl (lv_at hl 1 rfl) ?_
        exact W.iret (v := x1) hx hb hr (fun t ht hW => ⟨⟨x1, M, rfl, hw, by unfold rt_B; rw [ht]; exact hP⟩, hS.F ht⟩) hS.2.2 dX12_open_100
      · replace hw := hw.2 hc32
        refine lv_iconst (v := 0) hx hb dX12_open_35 (by decide) ?_
        refine lv_istore_n (lv' := [(3, .int 0), (0, .ref (ad 0)), (1, .int x1), (2, .int x2)]) hx hb dX12_open_36 rfl hl (by decide) rfl (fun ls hl => ?_)
        refine lv_iload_n hx hb dX12_open_37 rfl (lv_at hl 0 rfl) ?_
        refine lv_aload_n hx hb dX12_open_38 rfl (lv_at hl 1 rfl) ?_
        refine rt_get F hP (rt_c12 _ rt_k0) (rt_l12 rt_k0) inX12 rfl 1 (by decide) kw_1140 rfl rfl dX12_open_39 ?_
        refine rt_get F hP (rt_c8 _ rt_k1) (rt_l8 rt_k1) inX8 rfl 1 (by decide) kw_988 rfl rfl dX12_open_42 ?_
        refine rt_calli (rt_runV (n := 0) (As := []) (rest := [.int 0]) F hP hN hS (rt_frs hS.1) (rt_c13 _ rt_k5) (rt_l13 rt_k5) rfl (mtJx4a65c_size_8abf5 l D cA ad hI _ 5 rt_k5 M _ hw) kw_1167 kw_1164 kw_64 kw_1165 kw_1166 ⟨by decide, by decide, by decide +kernel⟩ ⟨rfl, rfl, Nat.le_of_ble_eq_true rfl, Nat.le_of_ble_eq_true rfl⟩ rfl hl.1 rfl (Nat.le_of_ble_eq_true rfl) dX12_open_45 ⟨Nat.zero_le _, Nat.zero_le _⟩) hS (fun _ h => h) (fun r_45 M_45 H locs hw hP hS _ _ => ?_)
        refine lv_icmp_ge (tgt := 93) hx hb dX12_open_48 (by decide) (fun hc48 => ?_) (fun hc48 => ?_)
        · replace hw := hw.1 hc48
          obtain ⟨x2_93, ex2_93⟩ : ∃ y : Int32, y = x2 + 1 := ⟨_, rfl⟩
          replace hw := hw x2_93 ex2_93
          refine lv_iinc (v := x2_93) (lv' := [(2, .int x2_93), (3, .int 0), (0, .ref (ad 0)), (1, .int x1)]) hx hb dX12_open_93 hl (k := 3) rfl (by rw [ex2_93]; rfl) (by decide) rfl (fun ls hl => ?_)
          refine lv_goto (tgt := 29) hx hb dX12_open_96 (by decide) ?_
          exact ih29 x1 x2_93 M_45 _ _ _ hw hP hS (lv_sub hl [2, 3, 0] rfl)
        · replace hw := hw.2 hc48
          refine lv_iload_n hx hb dX12_open_51 rfl (lv_at hl 2 rfl) ?_
          refine lv_aload_n hx hb dX12_open_52 rfl (lv_at hl 1 rfl) ?_
          refine rt_get F hP (rt_c12 _ rt_k0) (rt_l12 rt_k0) inX12 rfl 2 (by decide) kw_1142 rfl rfl dX12_open_53 ?_
          refine lv_aload_n hx hb dX12_open_56 rfl (lv_at hl 1 rfl) ?_
          refine rt_get F hP (rt_c12 _ rt_k0) (rt_l12 rt_k0) inX12 rfl 1 (by decide) kw_1140 rfl rfl dX12_open_57 ?_
          refine rt_get F hP (rt_c8 _ rt_k1) (rt_l8 rt_k1) inX8 rfl 1 (by decide) kw_988 rfl rfl dX12_open_60 ?_
          refine lv_iload_n hx hb dX12_open_63 rfl (lv_at hl 0 rfl) ?_
          exact hw.elim
  have J16 : ∀ (xs1 : Int32) (M : pt_M) (H : Heap) (locs : List Loc) (ls : Array Slot), wjX12_open_16 Q xs1 M → va_P D pt_cl (rt_W cA ad M) H → va_S (rt_fr ad s.heap.size) s.heap H locs → lv_has ls 4 [(0, .ref (ad 0))] → W p l e (headSpec (Cond.code yX12_open cX12_open 4 (some .int) :: lw_all) ({ frames := 2, cells := 0, slots := 0, locals := 44 } : Room)).room s m ([.ref (ad 0)] : List Value).toArray below meth c H locs 0 0 (MQ below (va_Qi Q (rt_B D cA ad) (rt_fr ad s.heap.size)) ([.ref (ad 0)] : List Value).toArray s 0 0 (rt_fr ad s.heap.size)) (F0 m 16 ls [.int xs1, .ref (ad 0)]) := by
    intro xs1 M H locs ls hw hP hS hl
    unfold wjX12_open_16 at hw
    refine lv_iconst (v := 1) hx hb dX12_open_16 (by decide) ?_
    refine rt_calli (rt_runV (n := 2) (As := [.int xs1, .int 1]) (rest := []) F hP hN hS (rt_frs hS.1) (rt_c12 _ rt_k0) (rt_l12 rt_k0) rfl (mtX12_start l D cA ad hI _ xs1 1 M _ hw) kw_1171 kw_1168 kw_60 kw_1170 kw_28 ⟨by decide, by decide, by decide +kernel⟩ ⟨rfl, rfl, Nat.le_of_ble_eq_true rfl, Nat.le_of_ble_eq_true rfl⟩ rfl hl.1 rfl (Nat.le_of_ble_eq_true rfl) dX12_open_17 ⟨Nat.zero_le _, Nat.zero_le _⟩) hS (fun _ h => h) (fun r_17 M_17 H locs hw hP hS _ _ => ?_)
    refine lv_if_eq (tgt := 25) hx hb dX12_open_20 (by decide) (fun hc20 => ?_) (fun hc20 => ?_)
    · replace hw := hw.1 hc20
      refine lv_iconst (v := 0) hx hb dX12_open_25 (by decide) ?_
      refine lv_istore_n (lv' := [(1, .int 0), (0, .ref (ad 0))]) hx hb dX12_open_26 rfl hl (by decide) rfl (fun ls hl => ?_)
      refine lv_iconst (v := 0) hx hb dX12_open_27 (by decide) ?_
      refine lv_istore_n (lv' := [(2, .int 0), (1, .int 0), (0, .ref (ad 0))]) hx hb dX12_open_28 rfl hl (by decide) rfl (fun ls hl => ?_)
      obtain ⟨n_, hw⟩ := hw
      exact L29 n_ 0 0 M_17 _ _ _ hw hP hS (lv_sub hl [2, 1, 0] rfl)
    · replace hw := hw.2 hc20
      refine lv_iconst (v := 0) hx hb dX12_open_23 (by decide) ?_
      exact W.iret (v := 0) hx hb hr (fun t ht hW => ⟨⟨0, M_17, rfl, hw, by unfold rt_B; rw [ht]; exact hP⟩, hS.F ht⟩) hS.2.2 dX12_open_24
  unfold wpX12_open at hw
  refine lv_aload_n hx hb dX12_open_0 rfl (lv_at hl 0 rfl) ?_
  refine lv_aload_n hx hb dX12_open_1 rfl (lv_at hl 0 rfl) ?_
  refine rt_get F hP (rt_c12 _ rt_k0) (rt_l12 rt_k0) inX12 rfl 2 (by decide) kw_1142 rfl rfl dX12_open_2 ?_
  refine rt_get F hP (rt_c9 _ rt_k6) (rt_l9 rt_k6) inX9 rfl 0 (by decide) kw_1004 rfl rfl dX12_open_5 ?_
  refine lv_if_ne (tgt := 15) hx hb dX12_open_8 (by decide) (fun hc8 => ?_) (fun hc8 => ?_)
  · replace hw := hw.1 hc8
    refine lv_iconst (v := 0) hx hb dX12_open_15 (by decide) ?_
    exact J16 0 M _ _ _ hw hP hS (lv_sub hl [0] rfl)
  · replace hw := hw.2 hc8
    refine lv_iconst (v := 1) hx hb dX12_open_11 (by decide) ?_
    refine lv_goto (tgt := 16) hx hb dX12_open_12 (by decide) ?_
    exact J16 1 M _ _ _ hw hP hS (lv_sub hl [0] rfl)
-- ===== X12_rowTo
def wjX12_rowTo_59 (p1 : Int32) (p2 : Int32) (Q : Int32 → pt_M → Prop)   (M : pt_M) : Prop :=
  Q 0 M
def wjX12_rowTo_52 (p1 : Int32) (p2 : Int32) (Q : Int32 → pt_M → Prop)  (xs1 : Int32) (M : pt_M) : Prop :=
  wpX12_refuse xs1 3 M (fun (r_53 : Int32) (M_53 : pt_M) => (r_53 = 0 → False) ∧ (¬ r_53 = 0 → wjX12_rowTo_59 p1 p2 Q M_53))
def wjX12_rowTo_16 (p1 : Int32) (p2 : Int32) (Q : Int32 → pt_M → Prop)  (xs1 : Int32) (M : pt_M) : Prop :=
  wpX12_start xs1 1 M (fun (r_17 : Int32) (M_17 : pt_M) => (¬ r_17 = 0 → wjX12_rowTo_59 p1 p2 Q M_17) ∧ (r_17 = 0 → wpX12_isNoState p1 M_17 (fun (r_26 : Int32) (M_26 : pt_M) => wpX12_refuse r_26 2 M_26 (fun (r_30 : Int32) (M_30 : pt_M) => (¬ r_30 = 0 → wjX12_rowTo_59 p1 p2 Q M_30) ∧ (r_30 = 0 → wpX12_isIn p2 1 8 M_30 (fun (r_41 : Int32) (M_41 : pt_M) => (¬ r_41 = 0 → wjX12_rowTo_52 p1 p2 Q 0 M_41) ∧ (r_41 = 0 → wjX12_rowTo_52 p1 p2 Q 1 M_41)))))))
def wpX12_rowTo (p1 : Int32) (p2 : Int32) (M : pt_M) (Q : Int32 → pt_M → Prop) : Prop :=
  (¬ (M 6 0) = 0 → wjX12_rowTo_16 p1 p2 Q 0 M) ∧ ((M 6 0) = 0 → wjX12_rowTo_16 p1 p2 Q 1 M)
set_option maxHeartbeats 4000000 in
set_option maxRecDepth 100000 in
theorem mtX12_rowTo (l : Launch) (D : va_G) (cA : Nat → ClassId) (ad : Nat → Nat) (hI : rt_I ad) (sz : Nat) (p1 : Int32) (p2 : Int32) (M : pt_M) (Q : Int32 → pt_M → Prop) (hw : wpX12_rowTo p1 p2 M Q) : Met l yX12_rowTo (Cond.code yX12_rowTo cX12_rowTo 3 (some .int) :: lw_all) ({ frames := 2, cells := 0, slots := 0, locals := 44 } : Room) (va_Pc [.ref (ad 0), .int p1, .int p2] (rt_P D cA ad sz M)) (va_Qi Q (rt_B D cA ad) (rt_fr ad sz)) 0 0 (rt_fr ad sz) := by
  refine Met.ofW (cc := cX12_rowTo) (maxL := 3) (ret := (some .int)) (by decide) rfl ?_
  intro p e s m args below meth c s₁ B hml hv
  obtain ⟨rfl, hsz, hP, hK, hN⟩ := hv
  have hx := B.exec
  have hb := B.bytes
  have hr := B.returns
  have hts0 := atoms_spec (ws := (Cond.code yX12_rowTo cX12_rowTo 3 (some .int) :: lw_all)) B.pre
  have hown : s.vm.findClass RX12 = some m.cls := findClass_of_methodNamed B.named
  have hlocks := B.notSynchronized
  subst hsz
  have F : pt_F p m c cX12_rowTo 3 s _ RX12 D cA := ⟨⟨hx, hb, hml, hown, fun w h => hts0 w (List.mem_cons_of_mem _ h)⟩, hK⟩
  have hD : ∀ M, va_D (rt_fr ad s.heap.size) (rt_W cA ad M) := rt_D hI (fun k h => Or.inl ⟨k, h, rfl⟩)
  have hS : va_S (rt_fr ad s.heap.size) s.heap s.heap [] := va_S.rf
  have hl := lv_entry ([.ref (ad 0), .int p1, .int p2]) (n := 3) (Nat.le_of_ble_eq_true rfl)
  rw [lg_entry_eq]
  generalize (lg_sl ([.ref (ad 0), .int p1, .int p2]) ++ List.replicate (3 - (lg_sl ([.ref (ad 0), .int p1, .int p2])).length) Slot.unset).toArray = ls at hl ⊢
  have hl : lv_has ls 3 [(0, .ref (ad 0)), (1, .int p1), (2, .int p2)] := hl
  have J59 : ∀ (M : pt_M) (H : Heap) (locs : List Loc) (ls : Array Slot), wjX12_rowTo_59 p1 p2 Q M → va_P D pt_cl (rt_W cA ad M) H → va_S (rt_fr ad s.heap.size) s.heap H locs → lv_has ls 3 [] → W p l e (headSpec (Cond.code yX12_rowTo cX12_rowTo 3 (some .int) :: lw_all) ({ frames := 2, cells := 0, slots := 0, locals := 44 } : Room)).room s m ([.ref (ad 0), .int p1, .int p2] : List Value).toArray below meth c H locs 0 0 (MQ below (va_Qi Q (rt_B D cA ad) (rt_fr ad s.heap.size)) ([.ref (ad 0), .int p1, .int p2] : List Value).toArray s 0 0 (rt_fr ad s.heap.size)) (F0 m 59 ls []) := by
    intro M H locs ls hw hP hS hl
    unfold wjX12_rowTo_59 at hw
    refine lv_iconst (v := 0) hx hb dX12_rowTo_59 (by decide) ?_
    refine lv_goto (tgt := 70) hx hb dX12_rowTo_60 (by decide) ?_
    exact W.iret (v := 0) hx hb hr (fun t ht hW => ⟨⟨0, M, rfl, hw, by unfold rt_B; rw [ht]; exact hP⟩, hS.F ht⟩) hS.2.2 dX12_rowTo_70
  have J52 : ∀ (xs1 : Int32) (M : pt_M) (H : Heap) (locs : List Loc) (ls : Array Slot), wjX12_rowTo_52 p1 p2 Q xs1 M → va_P D pt_cl (rt_W cA ad M) H → va_S (rt_fr ad s.heap.size) s.heap H locs → lv_has ls 3 [(0, .ref (ad 0)), (1, .int p1), (2, .int p2)] → W p l e (headSpec (Cond.code yX12_rowTo cX12_rowTo 3 (some .int) :: lw_all) ({ frames := 2, cells := 0, slots := 0, locals := 44 } : Room)).room s m ([.ref (ad 0), .int p1, .int p2] : List Value).toArray below meth c H locs 0 0 (MQ below (va_Qi Q (rt_B D cA ad) (rt_fr ad s.heap.size)) ([.ref (ad 0), .int p1, .int p2] : List Value).toArray s 0 0 (rt_fr ad s.heap.size)) (F0 m 52 ls [.int xs1, .ref (ad 0)]) := by
    intro xs1 M H locs ls hw hP hS hl
    unfold wjX12_rowTo_52 at hw
    refine lv_iconst (v := 3) hx hb dX12_rowTo_52 (by decide) ?_
    refine rt_calli (rt_runV (n := 2) (As := [.int xs1, .int 3]) (rest := []) F hP hN hS (rt_frs hS.1) (rt_c12 _ rt_k0) (rt_l12 rt_k0) rfl (mtX12_refuse l D cA ad hI _ xs1 3 M _ hw) kw_1175 kw_1172 kw_60 kw_1174 kw_29 ⟨by decide, by decide, by decide +kernel⟩ ⟨rfl, rfl, Nat.le_of_ble_eq_true rfl, Nat.le_of_ble_eq_true rfl⟩ rfl hl.1 rfl (Nat.le_of_ble_eq_true rfl) dX12_rowTo_53 ⟨Nat.zero_le _, Nat.zero_le _⟩) hS (fun _ h => h) (fun r_53 M_53 H locs hw hP hS _ _ => ?_)
    refine lv_if_eq (tgt := 63) hx hb dX12_rowTo_56 (by decide) (fun hc56 => ?_) (fun hc56 => ?_)
    · replace hw := hw.1 hc56
      refine lv_aload_n hx hb dX12_rowTo_63 rfl (lv_at hl 0 rfl) ?_
      refine lv_iload_n hx hb dX12_rowTo_64 rfl (lv_at hl 1 rfl) ?_
      refine lv_iconst (v := (-1)) hx hb dX12_rowTo_65 (by decide) ?_
      refine lv_iload_n hx hb dX12_rowTo_66 rfl (lv_at hl 2 rfl) ?_
      exact hw.elim
    · replace hw := hw.2 hc56
      exact J59 M_53 _ _ _ hw hP hS (lv_sub hl [] rfl)
  have J16 : ∀ (xs1 : Int32) (M : pt_M) (H : Heap) (locs : List Loc) (ls : Array Slot), wjX12_rowTo_16 p1 p2 Q xs1 M → va_P D pt_cl (rt_W cA ad M) H → va_S (rt_fr ad s.heap.size) s.heap H locs → lv_has ls 3 [(0, .ref (ad 0)), (1, .int p1), (2, .int p2)] → W p l e (headSpec (Cond.code yX12_rowTo cX12_rowTo 3 (some .int) :: lw_all) ({ frames := 2, cells := 0, slots := 0, locals := 44 } : Room)).room s m ([.ref (ad 0), .int p1, .int p2] : List Value).toArray below meth c H locs 0 0 (MQ below (va_Qi Q (rt_B D cA ad) (rt_fr ad s.heap.size)) ([.ref (ad 0), .int p1, .int p2] : List Value).toArray s 0 0 (rt_fr ad s.heap.size)) (F0 m 16 ls [.int xs1, .ref (ad 0)]) := by
    intro xs1 M H locs ls hw hP hS hl
    unfold wjX12_rowTo_16 at hw
    refine lv_iconst (v := 1) hx hb dX12_rowTo_16 (by decide) ?_
    refine rt_calli (rt_runV (n := 2) (As := [.int xs1, .int 1]) (rest := []) F hP hN hS (rt_frs hS.1) (rt_c12 _ rt_k0) (rt_l12 rt_k0) rfl (mtX12_start l D cA ad hI _ xs1 1 M _ hw) kw_1171 kw_1168 kw_60 kw_1170 kw_28 ⟨by decide, by decide, by decide +kernel⟩ ⟨rfl, rfl, Nat.le_of_ble_eq_true rfl, Nat.le_of_ble_eq_true rfl⟩ rfl hl.1 rfl (Nat.le_of_ble_eq_true rfl) dX12_rowTo_17 ⟨Nat.zero_le _, Nat.zero_le _⟩) hS (fun _ h => h) (fun r_17 M_17 H locs hw hP hS _ _ => ?_)
    refine lv_if_ne (tgt := 59) hx hb dX12_rowTo_20 (by decide) (fun hc20 => ?_) (fun hc20 => ?_)
    · replace hw := hw.1 hc20
      exact J59 M_17 _ _ _ hw hP hS (lv_sub hl [] rfl)
    · replace hw := hw.2 hc20
      refine lv_aload_n hx hb dX12_rowTo_23 rfl (lv_at hl 0 rfl) ?_
      refine lv_aload_n hx hb dX12_rowTo_24 rfl (lv_at hl 0 rfl) ?_
      refine lv_iload_n hx hb dX12_rowTo_25 rfl (lv_at hl 1 rfl) ?_
      refine rt_calli (rt_runV (n := 1) (As := [.int p1]) (rest := [.ref (ad 0)]) F hP hN hS (rt_frs hS.1) (rt_c12 _ rt_k0) (rt_l12 rt_k0) rfl (mtX12_isNoState l D cA ad hI _ p1 M_17 _ hw) kw_1179 kw_1176 kw_60 kw_1178 kw_30 ⟨by decide, by decide, by decide +kernel⟩ ⟨rfl, rfl, Nat.le_of_ble_eq_true rfl, Nat.le_of_ble_eq_true rfl⟩ rfl hl.1 rfl (Nat.le_of_ble_eq_true rfl) dX12_rowTo_26 ⟨Nat.zero_le _, Nat.zero_le _⟩) hS (fun _ h => h) (fun r_26 M_26 H locs hw hP hS _ _ => ?_)
      refine lv_iconst (v := 2) hx hb dX12_rowTo_29 (by decide) ?_
      refine rt_calli (rt_runV (n := 2) (As := [.int r_26, .int 2]) (rest := []) F hP hN hS (rt_frs hS.1) (rt_c12 _ rt_k0) (rt_l12 rt_k0) rfl (mtX12_refuse l D cA ad hI _ r_26 2 M_26 _ hw) kw_1175 kw_1172 kw_60 kw_1174 kw_29 ⟨by decide, by decide, by decide +kernel⟩ ⟨rfl, rfl, Nat.le_of_ble_eq_true rfl, Nat.le_of_ble_eq_true rfl⟩ rfl hl.1 rfl (Nat.le_of_ble_eq_true rfl) dX12_rowTo_30 ⟨Nat.zero_le _, Nat.zero_le _⟩) hS (fun _ h => h) (fun r_30 M_30 H locs hw hP hS _ _ => ?_)
      refine lv_if_ne (tgt := 59) hx hb dX12_rowTo_33 (by decide) (fun hc33 => ?_) (fun hc33 => ?_)
      · replace hw := hw.1 hc33
        exact J59 M_30 _ _ _ hw hP hS (lv_sub hl [] rfl)
      · replace hw := hw.2 hc33
        refine lv_aload_n hx hb dX12_rowTo_36 rfl (lv_at hl 0 rfl) ?_
        refine lv_iload_n hx hb dX12_rowTo_37 rfl (lv_at hl 2 rfl) ?_
        refine lv_iconst (v := 1) hx hb dX12_rowTo_38 (by decide) ?_
        refine lv_bipush (v := 8) hx hb dX12_rowTo_39 (by decide) ?_
        refine rt_calli (rt_runS (n := 3) (As := [.int p2, .int 1, .int 8]) (rest := [.ref (ad 0)]) F hP hN hS (rt_frs hS.1) (mtX12_isIn l D cA ad hI _ p2 1 8 M_30 _ hw) kw_1182 kw_1180 kw_60 kw_1181 ⟨by decide, by decide, by decide +kernel⟩ ⟨rfl, rfl, Nat.le_of_ble_eq_true rfl, Nat.le_of_ble_eq_true rfl⟩ rfl hl.1 rfl (Nat.le_of_ble_eq_true rfl) dX12_rowTo_41 ⟨Nat.zero_le _, Nat.zero_le _⟩) hS (fun _ h => h) (fun r_41 M_41 H locs hw hP hS _ _ => ?_)
        refine lv_if_ne (tgt := 51) hx hb dX12_rowTo_44 (by decide) (fun hc44 => ?_) (fun hc44 => ?_)
        · replace hw := hw.1 hc44
          refine lv_iconst (v := 0) hx hb dX12_rowTo_51 (by decide) ?_
          exact J52 0 M_41 _ _ _ hw hP hS (lv_sub hl [0, 1, 2] rfl)
        · replace hw := hw.2 hc44
          refine lv_iconst (v := 1) hx hb dX12_rowTo_47 (by decide) ?_
          refine lv_goto (tgt := 52) hx hb dX12_rowTo_48 (by decide) ?_
          exact J52 1 M_41 _ _ _ hw hP hS (lv_sub hl [0, 1, 2] rfl)
  unfold wpX12_rowTo at hw
  refine lv_aload_n hx hb dX12_rowTo_0 rfl (lv_at hl 0 rfl) ?_
  refine lv_aload_n hx hb dX12_rowTo_1 rfl (lv_at hl 0 rfl) ?_
  refine rt_get F hP (rt_c12 _ rt_k0) (rt_l12 rt_k0) inX12 rfl 2 (by decide) kw_1142 rfl rfl dX12_rowTo_2 ?_
  refine rt_get F hP (rt_c9 _ rt_k6) (rt_l9 rt_k6) inX9 rfl 0 (by decide) kw_1004 rfl rfl dX12_rowTo_5 ?_
  refine lv_if_ne (tgt := 15) hx hb dX12_rowTo_8 (by decide) (fun hc8 => ?_) (fun hc8 => ?_)
  · replace hw := hw.1 hc8
    refine lv_iconst (v := 0) hx hb dX12_rowTo_15 (by decide) ?_
    exact J16 0 M _ _ _ hw hP hS (lv_sub hl [0, 1, 2] rfl)
  · replace hw := hw.2 hc8
    refine lv_iconst (v := 1) hx hb dX12_rowTo_11 (by decide) ?_
    refine lv_goto (tgt := 16) hx hb dX12_rowTo_12 (by decide) ?_
    exact J16 1 M _ _ _ hw hP hS (lv_sub hl [0, 1, 2] rfl)
-- ===== X12_rowFor
def wjX12_rowFor_59 (p1 : Int32) (p2 : Int32) (Q : Int32 → pt_M → Prop)   (M : pt_M) : Prop :=
  Q 0 M
def wjX12_rowFor_52 (p1 : Int32) (p2 : Int32) (Q : Int32 → pt_M → Prop)  (xs1 : Int32) (M : pt_M) : Prop :=
  wpX12_refuse xs1 3 M (fun (r_53 : Int32) (M_53 : pt_M) => (r_53 = 0 → False) ∧ (¬ r_53 = 0 → wjX12_rowFor_59 p1 p2 Q M_53))
def wjX12_rowFor_16 (p1 : Int32) (p2 : Int32) (Q : Int32 → pt_M → Prop)  (xs1 : Int32) (M : pt_M) : Prop :=
  wpX12_start xs1 1 M (fun (r_17 : Int32) (M_17 : pt_M) => (¬ r_17 = 0 → wjX12_rowFor_59 p1 p2 Q M_17) ∧ (r_17 = 0 → wpX12_isNoTransition p1 M_17 (fun (r_26 : Int32) (M_26 : pt_M) => wpX12_refuse r_26 2 M_26 (fun (r_30 : Int32) (M_30 : pt_M) => (¬ r_30 = 0 → wjX12_rowFor_59 p1 p2 Q M_30) ∧ (r_30 = 0 → wpX12_isIn p2 1 8 M_30 (fun (r_41 : Int32) (M_41 : pt_M) => (¬ r_41 = 0 → wjX12_rowFor_52 p1 p2 Q 0 M_41) ∧ (r_41 = 0 → wjX12_rowFor_52 p1 p2 Q 1 M_41)))))))
def wpX12_rowFor (p1 : Int32) (p2 : Int32) (M : pt_M) (Q : Int32 → pt_M → Prop) : Prop :=
  (¬ (M 6 0) = 0 → wjX12_rowFor_16 p1 p2 Q 0 M) ∧ ((M 6 0) = 0 → wjX12_rowFor_16 p1 p2 Q 1 M)
set_option maxHeartbeats 4000000 in
set_option maxRecDepth 100000 in
theorem mtX12_rowFor (l : Launch) (D : va_G) (cA : Nat → ClassId) (ad : Nat → Nat) (hI : rt_I ad) (sz : Nat) (p1 : Int32) (p2 : Int32) (M : pt_M) (Q : Int32 → pt_M → Prop) (hw : wpX12_rowFor p1 p2 M Q) : Met l yX12_rowFor (Cond.code yX12_rowFor cX12_rowFor 3 (some .int) :: lw_all) ({ frames := 2, cells := 0, slots := 0, locals := 44 } : Room) (va_Pc [.ref (ad 0), .int p1, .int p2] (rt_P D cA ad sz M)) (va_Qi Q (rt_B D cA ad) (rt_fr ad sz)) 0 0 (rt_fr ad sz) := by
  refine Met.ofW (cc := cX12_rowFor) (maxL := 3) (ret := (some .int)) (by decide) rfl ?_
  intro p e s m args below meth c s₁ B hml hv
  obtain ⟨rfl, hsz, hP, hK, hN⟩ := hv
  have hx := B.exec
  have hb := B.bytes
  have hr := B.returns
  have hts0 := atoms_spec (ws := (Cond.code yX12_rowFor cX12_rowFor 3 (some .int) :: lw_all)) B.pre
  have hown : s.vm.findClass RX12 = some m.cls := findClass_of_methodNamed B.named
  have hlocks := B.notSynchronized
  subst hsz
  have F : pt_F p m c cX12_rowFor 3 s _ RX12 D cA := ⟨⟨hx, hb, hml, hown, fun w h => hts0 w (List.mem_cons_of_mem _ h)⟩, hK⟩
  have hD : ∀ M, va_D (rt_fr ad s.heap.size) (rt_W cA ad M) := rt_D hI (fun k h => Or.inl ⟨k, h, rfl⟩)
  have hS : va_S (rt_fr ad s.heap.size) s.heap s.heap [] := va_S.rf
  have hl := lv_entry ([.ref (ad 0), .int p1, .int p2]) (n := 3) (Nat.le_of_ble_eq_true rfl)
  rw [lg_entry_eq]
  generalize (lg_sl ([.ref (ad 0), .int p1, .int p2]) ++ List.replicate (3 - (lg_sl ([.ref (ad 0), .int p1, .int p2])).length) Slot.unset).toArray = ls at hl ⊢
  have hl : lv_has ls 3 [(0, .ref (ad 0)), (1, .int p1), (2, .int p2)] := hl
  have J59 : ∀ (M : pt_M) (H : Heap) (locs : List Loc) (ls : Array Slot), wjX12_rowFor_59 p1 p2 Q M → va_P D pt_cl (rt_W cA ad M) H → va_S (rt_fr ad s.heap.size) s.heap H locs → lv_has ls 3 [] → W p l e (headSpec (Cond.code yX12_rowFor cX12_rowFor 3 (some .int) :: lw_all) ({ frames := 2, cells := 0, slots := 0, locals := 44 } : Room)).room s m ([.ref (ad 0), .int p1, .int p2] : List Value).toArray below meth c H locs 0 0 (MQ below (va_Qi Q (rt_B D cA ad) (rt_fr ad s.heap.size)) ([.ref (ad 0), .int p1, .int p2] : List Value).toArray s 0 0 (rt_fr ad s.heap.size)) (F0 m 59 ls []) := by
    intro M H locs ls hw hP hS hl
    unfold wjX12_rowFor_59 at hw
    refine lv_iconst (v := 0) hx hb dX12_rowFor_59 (by decide) ?_
    refine lv_goto (tgt := 70) hx hb dX12_rowFor_60 (by decide) ?_
    exact W.iret (v := 0) hx hb hr (fun t ht hW => ⟨⟨0, M, rfl, hw, by unfold rt_B; rw [ht]; exact hP⟩, hS.F ht⟩) hS.2.2 dX12_rowFor_70
  have J52 : ∀ (xs1 : Int32) (M : pt_M) (H : Heap) (locs : List Loc) (ls : Array Slot), wjX12_rowFor_52 p1 p2 Q xs1 M → va_P D pt_cl (rt_W cA ad M) H → va_S (rt_fr ad s.heap.size) s.heap H locs → lv_has ls 3 [(0, .ref (ad 0)), (1, .int p1), (2, .int p2)] → W p l e (headSpec (Cond.code yX12_rowFor cX12_rowFor 3 (some .int) :: lw_all) ({ frames := 2, cells := 0, slots := 0, locals := 44 } : Room)).room s m ([.ref (ad 0), .int p1, .int p2] : List Value).toArray below meth c H locs 0 0 (MQ below (va_Qi Q (rt_B D cA ad) (rt_fr ad s.heap.size)) ([.ref (ad 0), .int p1, .int p2] : List Value).toArray s 0 0 (rt_fr ad s.heap.size)) (F0 m 52 ls [.int xs1, .ref (ad 0)]) := by
    intro xs1 M H locs ls hw hP hS hl
    unfold wjX12_rowFor_52 at hw
    refine lv_iconst (v := 3) hx hb dX12_rowFor_52 (by decide) ?_
    refine rt_calli (rt_runV (n := 2) (As := [.int xs1, .int 3]) (rest := []) F hP hN hS (rt_frs hS.1) (rt_c12 _ rt_k0) (rt_l12 rt_k0) rfl (mtX12_refuse l D cA ad hI _ xs1 3 M _ hw) kw_1175 kw_1172 kw_60 kw_1174 kw_29 ⟨by decide, by decide, by decide +kernel⟩ ⟨rfl, rfl, Nat.le_of_ble_eq_true rfl, Nat.le_of_ble_eq_true rfl⟩ rfl hl.1 rfl (Nat.le_of_ble_eq_true rfl) dX12_rowFor_53 ⟨Nat.zero_le _, Nat.zero_le _⟩) hS (fun _ h => h) (fun r_53 M_53 H locs hw hP hS _ _ => ?_)
    refine lv_if_eq (tgt := 63) hx hb dX12_rowFor_56 (by decide) (fun hc56 => ?_) (fun hc56 => ?_)
    · replace hw := hw.1 hc56
      refine lv_aload_n hx hb dX12_rowFor_63 rfl (lv_at hl 0 rfl) ?_
      refine lv_iconst (v := (-1)) hx hb dX12_rowFor_64 (by decide) ?_
      refine lv_iload_n hx hb dX12_rowFor_65 rfl (lv_at hl 1 rfl) ?_
      refine lv_iload_n hx hb dX12_rowFor_66 rfl (lv_at hl 2 rfl) ?_
      exact hw.elim
    · replace hw := hw.2 hc56
      exact J59 M_53 _ _ _ hw hP hS (lv_sub hl [] rfl)
  have J16 : ∀ (xs1 : Int32) (M : pt_M) (H : Heap) (locs : List Loc) (ls : Array Slot), wjX12_rowFor_16 p1 p2 Q xs1 M → va_P D pt_cl (rt_W cA ad M) H → va_S (rt_fr ad s.heap.size) s.heap H locs → lv_has ls 3 [(0, .ref (ad 0)), (1, .int p1), (2, .int p2)] → W p l e (headSpec (Cond.code yX12_rowFor cX12_rowFor 3 (some .int) :: lw_all) ({ frames := 2, cells := 0, slots := 0, locals := 44 } : Room)).room s m ([.ref (ad 0), .int p1, .int p2] : List Value).toArray below meth c H locs 0 0 (MQ below (va_Qi Q (rt_B D cA ad) (rt_fr ad s.heap.size)) ([.ref (ad 0), .int p1, .int p2] : List Value).toArray s 0 0 (rt_fr ad s.heap.size)) (F0 m 16 ls [.int xs1, .ref (ad 0)]) := by
    intro xs1 M H locs ls hw hP hS hl
    unfold wjX12_rowFor_16 at hw
    refine lv_iconst (v := 1) hx hb dX12_rowFor_16 (by decide) ?_
    refine rt_calli (rt_runV (n := 2) (As := [.int xs1, .int 1]) (rest := []) F hP hN hS (rt_frs hS.1) (rt_c12 _ rt_k0) (rt_l12 rt_k0) rfl (mtX12_start l D cA ad hI _ xs1 1 M _ hw) kw_1171 kw_1168 kw_60 kw_1170 kw_28 ⟨by decide, by decide, by decide +kernel⟩ ⟨rfl, rfl, Nat.le_of_ble_eq_true rfl, Nat.le_of_ble_eq_true rfl⟩ rfl hl.1 rfl (Nat.le_of_ble_eq_true rfl) dX12_rowFor_17 ⟨Nat.zero_le _, Nat.zero_le _⟩) hS (fun _ h => h) (fun r_17 M_17 H locs hw hP hS _ _ => ?_)
    refine lv_if_ne (tgt := 59) hx hb dX12_rowFor_20 (by decide) (fun hc20 => ?_) (fun hc20 => ?_)
    · replace hw := hw.1 hc20
      exact J59 M_17 _ _ _ hw hP hS (lv_sub hl [] rfl)
    · replace hw := hw.2 hc20
      refine lv_aload_n hx hb dX12_rowFor_23 rfl (lv_at hl 0 rfl) ?_
      refine lv_aload_n hx hb dX12_rowFor_24 rfl (lv_at hl 0 rfl) ?_
      refine lv_iload_n hx hb dX12_rowFor_25 rfl (lv_at hl 1 rfl) ?_
      refine rt_calli (rt_runV (n := 1) (As := [.int p1]) (rest := [.ref (ad 0)]) F hP hN hS (rt_frs hS.1) (rt_c12 _ rt_k0) (rt_l12 rt_k0) rfl (mtX12_isNoTransition l D cA ad hI _ p1 M_17 _ hw) kw_1292 kw_1289 kw_60 kw_1291 kw_31 ⟨by decide, by decide, by decide +kernel⟩ ⟨rfl, rfl, Nat.le_of_ble_eq_true rfl, Nat.le_of_ble_eq_true rfl⟩ rfl hl.1 rfl (Nat.le_of_ble_eq_true rfl) dX12_rowFor_26 ⟨Nat.zero_le _, Nat.zero_le _⟩) hS (fun _ h => h) (fun r_26 M_26 H locs hw hP hS _ _ => ?_)
      refine lv_iconst (v := 2) hx hb dX12_rowFor_29 (by decide) ?_
      refine rt_calli (rt_runV (n := 2) (As := [.int r_26, .int 2]) (rest := []) F hP hN hS (rt_frs hS.1) (rt_c12 _ rt_k0) (rt_l12 rt_k0) rfl (mtX12_refuse l D cA ad hI _ r_26 2 M_26 _ hw) kw_1175 kw_1172 kw_60 kw_1174 kw_29 ⟨by decide, by decide, by decide +kernel⟩ ⟨rfl, rfl, Nat.le_of_ble_eq_true rfl, Nat.le_of_ble_eq_true rfl⟩ rfl hl.1 rfl (Nat.le_of_ble_eq_true rfl) dX12_rowFor_30 ⟨Nat.zero_le _, Nat.zero_le _⟩) hS (fun _ h => h) (fun r_30 M_30 H locs hw hP hS _ _ => ?_)
      refine lv_if_ne (tgt := 59) hx hb dX12_rowFor_33 (by decide) (fun hc33 => ?_) (fun hc33 => ?_)
      · replace hw := hw.1 hc33
        exact J59 M_30 _ _ _ hw hP hS (lv_sub hl [] rfl)
      · replace hw := hw.2 hc33
        refine lv_aload_n hx hb dX12_rowFor_36 rfl (lv_at hl 0 rfl) ?_
        refine lv_iload_n hx hb dX12_rowFor_37 rfl (lv_at hl 2 rfl) ?_
        refine lv_iconst (v := 1) hx hb dX12_rowFor_38 (by decide) ?_
        refine lv_bipush (v := 8) hx hb dX12_rowFor_39 (by decide) ?_
        refine rt_calli (rt_runS (n := 3) (As := [.int p2, .int 1, .int 8]) (rest := [.ref (ad 0)]) F hP hN hS (rt_frs hS.1) (mtX12_isIn l D cA ad hI _ p2 1 8 M_30 _ hw) kw_1182 kw_1180 kw_60 kw_1181 ⟨by decide, by decide, by decide +kernel⟩ ⟨rfl, rfl, Nat.le_of_ble_eq_true rfl, Nat.le_of_ble_eq_true rfl⟩ rfl hl.1 rfl (Nat.le_of_ble_eq_true rfl) dX12_rowFor_41 ⟨Nat.zero_le _, Nat.zero_le _⟩) hS (fun _ h => h) (fun r_41 M_41 H locs hw hP hS _ _ => ?_)
        refine lv_if_ne (tgt := 51) hx hb dX12_rowFor_44 (by decide) (fun hc44 => ?_) (fun hc44 => ?_)
        · replace hw := hw.1 hc44
          refine lv_iconst (v := 0) hx hb dX12_rowFor_51 (by decide) ?_
          exact J52 0 M_41 _ _ _ hw hP hS (lv_sub hl [0, 1, 2] rfl)
        · replace hw := hw.2 hc44
          refine lv_iconst (v := 1) hx hb dX12_rowFor_47 (by decide) ?_
          refine lv_goto (tgt := 52) hx hb dX12_rowFor_48 (by decide) ?_
          exact J52 1 M_41 _ _ _ hw hP hS (lv_sub hl [0, 1, 2] rfl)
  unfold wpX12_rowFor at hw
  refine lv_aload_n hx hb dX12_rowFor_0 rfl (lv_at hl 0 rfl) ?_
  refine lv_aload_n hx hb dX12_rowFor_1 rfl (lv_at hl 0 rfl) ?_
  refine rt_get F hP (rt_c12 _ rt_k0) (rt_l12 rt_k0) inX12 rfl 2 (by decide) kw_1142 rfl rfl dX12_rowFor_2 ?_
  refine rt_get F hP (rt_c9 _ rt_k6) (rt_l9 rt_k6) inX9 rfl 0 (by decide) kw_1004 rfl rfl dX12_rowFor_5 ?_
  refine lv_if_ne (tgt := 15) hx hb dX12_rowFor_8 (by decide) (fun hc8 => ?_) (fun hc8 => ?_)
  · replace hw := hw.1 hc8
    refine lv_iconst (v := 0) hx hb dX12_rowFor_15 (by decide) ?_
    exact J16 0 M _ _ _ hw hP hS (lv_sub hl [0, 1, 2] rfl)
  · replace hw := hw.2 hc8
    refine lv_iconst (v := 1) hx hb dX12_rowFor_11 (by decide) ?_
    refine lv_goto (tgt := 16) hx hb dX12_rowFor_12 (by decide) ?_
    exact J16 1 M _ _ _ hw hP hS (lv_sub hl [0, 1, 2] rfl)
section RALEN
variable {p : Program} {l : Launch} {e : Env} {R : Room} {s : State} {m : MethodId} {args : Array Value} {below : List Frame} {meth : Method} {c : Code} {H : Heap} {locs : List Loc} {cells slots : Nat} {Q : State → Prop}
variable {cc : ByteArray} {pc nL : Nat} {ls : Array Slot} {rest : List Value} {D : va_G} {cA : Nat → ClassId} {ad : Nat → Nat} {M : pt_M} {own : String} {k : Nat}
theorem rt_alen (F : pt_F p m c cc nL s args own D cA) (hP : va_P D pt_cl (rt_W cA ad M) H) {n : Nat} (h8 : rt_kd k = 21 ∧ rt_len k = n) {v : Int32} (hv : Int32.ofNat n = v) (hdg : decode cc pc = .ok (.arraylength, 1))
    (kk : W p l e R s m args below meth c H locs cells slots Q (F0 m (pc + 1) ls (.int v :: rest))) : W p l e R s m args below meth c H locs cells slots Q (F0 m pc ls (.ref (ad k) :: rest)) :=
  va_alen (D := D) F.1.1 F.1.2.1 F.2 hP k 0 (x := (n, .inl (M k))) (by rw [rt_W_get (rt_l21 h8.1), rt_c21 _ h8]) rfl hv hdg kk
end RALEN
-- ===== X12_rowed
def wjX12_rowed_23 (p1 : Int32) (Q : Int32 → pt_M → Prop)  (xs0 : Int32) (M : pt_M) : Prop :=
  Q xs0 M
def wjX12_rowed_22 (p1 : Int32) (Q : Int32 → pt_M → Prop)   (M : pt_M) : Prop :=
  wjX12_rowed_23 p1 Q (-1) M
def wpX12_rowed (p1 : Int32) (M : pt_M) (Q : Int32 → pt_M → Prop) : Prop :=
  (p1 < 0 → wjX12_rowed_22 p1 Q M) ∧ (¬ p1 < 0 → (0 ≤ p1 → wjX12_rowed_22 p1 Q M) ∧ (¬ 0 ≤ p1 → vp_in p1 0 ∧ (wjX12_rowed_23 p1 Q (M 12 (Int32.toNatClampNeg p1)) M)))
set_option maxHeartbeats 4000000 in
set_option maxRecDepth 100000 in
theorem mtX12_rowed (l : Launch) (D : va_G) (cA : Nat → ClassId) (ad : Nat → Nat) (hI : rt_I ad) (sz : Nat) (p1 : Int32) (M : pt_M) (Q : Int32 → pt_M → Prop) (hw : wpX12_rowed p1 M Q) : Met l yX12_rowed (Cond.code yX12_rowed cX12_rowed 2 (some .int) :: lw_all) ({ frames := 0, cells := 0, slots := 0, locals := 0 } : Room) (va_Pc [.ref (ad 0), .int p1] (rt_P D cA ad sz M)) (va_Qi Q (rt_B D cA ad) (rt_fr ad sz)) 0 0 (rt_fr ad sz) := by
  refine Met.ofW (cc := cX12_rowed) (maxL := 2) (ret := (some .int)) (by decide) rfl ?_
  intro p e s m args below meth c s₁ B hml hv
  obtain ⟨rfl, hsz, hP, hK, hN⟩ := hv
  have hx := B.exec
  have hb := B.bytes
  have hr := B.returns
  have hts0 := atoms_spec (ws := (Cond.code yX12_rowed cX12_rowed 2 (some .int) :: lw_all)) B.pre
  have hown : s.vm.findClass RX12 = some m.cls := findClass_of_methodNamed B.named
  have hlocks := B.notSynchronized
  subst hsz
  have F : pt_F p m c cX12_rowed 2 s _ RX12 D cA := ⟨⟨hx, hb, hml, hown, fun w h => hts0 w (List.mem_cons_of_mem _ h)⟩, hK⟩
  have hD : ∀ M, va_D (rt_fr ad s.heap.size) (rt_W cA ad M) := rt_D hI (fun k h => Or.inl ⟨k, h, rfl⟩)
  have hS : va_S (rt_fr ad s.heap.size) s.heap s.heap [] := va_S.rf
  have hl := lv_entry ([.ref (ad 0), .int p1]) (n := 2) (Nat.le_of_ble_eq_true rfl)
  rw [lg_entry_eq]
  generalize (lg_sl ([.ref (ad 0), .int p1]) ++ List.replicate (2 - (lg_sl ([.ref (ad 0), .int p1])).length) Slot.unset).toArray = ls at hl ⊢
  have hl : lv_has ls 2 [(0, .ref (ad 0)), (1, .int p1)] := hl
  have J23 : ∀ (xs0 : Int32) (M : pt_M) (H : Heap) (locs : List Loc) (ls : Array Slot), wjX12_rowed_23 p1 Q xs0 M → va_P D pt_cl (rt_W cA ad M) H → va_S (rt_fr ad s.heap.size) s.heap H locs → lv_has ls 2 [] → W p l e (headSpec (Cond.code yX12_rowed cX12_rowed 2 (some .int) :: lw_all) ({ frames := 0, cells := 0, slots := 0, locals := 0 } : Room)).room s m ([.ref (ad 0), .int p1] : List Value).toArray below meth c H locs 0 0 (MQ below (va_Qi Q (rt_B D cA ad) (rt_fr ad s.heap.size)) ([.ref (ad 0), .int p1] : List Value).toArray s 0 0 (rt_fr ad s.heap.size)) (F0 m 23 ls [.int xs0]) := by
    intro xs0 M H locs ls hw hP hS hl
    unfold wjX12_rowed_23 at hw
    exact W.iret (v := xs0) hx hb hr (fun t ht hW => ⟨⟨xs0, M, rfl, hw, by unfold rt_B; rw [ht]; exact hP⟩, hS.F ht⟩) hS.2.2 dX12_rowed_23
  have J22 : ∀ (M : pt_M) (H : Heap) (locs : List Loc) (ls : Array Slot), wjX12_rowed_22 p1 Q M → va_P D pt_cl (rt_W cA ad M) H → va_S (rt_fr ad s.heap.size) s.heap H locs → lv_has ls 2 [] → W p l e (headSpec (Cond.code yX12_rowed cX12_rowed 2 (some .int) :: lw_all) ({ frames := 0, cells := 0, slots := 0, locals := 0 } : Room)).room s m ([.ref (ad 0), .int p1] : List Value).toArray below meth c H locs 0 0 (MQ below (va_Qi Q (rt_B D cA ad) (rt_fr ad s.heap.size)) ([.ref (ad 0), .int p1] : List Value).toArray s 0 0 (rt_fr ad s.heap.size)) (F0 m 22 ls []) := by
    intro M H locs ls hw hP hS hl
    unfold wjX12_rowed_22 at hw
    refine lv_iconst (v := (-1)) hx hb dX12_rowed_22 (by decide) ?_
    exact J23 (-1) M _ _ _ hw hP hS (lv_sub hl [] rfl)
  unfold wpX12_rowed at hw
  refine lv_iload_n hx hb dX12_rowed_0 rfl (lv_at hl 1 rfl) ?_
  refine lv_if_lt (tgt := 22) hx hb dX12_rowed_1 (by decide) (fun hc1 => ?_) (fun hc1 => ?_)
  · replace hw := hw.1 hc1
    exact J22 M _ _ _ hw hP hS (lv_sub hl [] rfl)
  · replace hw := hw.2 hc1
    refine lv_iload_n hx hb dX12_rowed_4 rfl (lv_at hl 1 rfl) ?_
    refine lv_aload_n hx hb dX12_rowed_5 rfl (lv_at hl 0 rfl) ?_
    refine rt_get F hP (rt_c12 _ rt_k0) (rt_l12 rt_k0) inX12 rfl 3 (by decide) kw_1143 rfl rfl dX12_rowed_6 ?_
    refine rt_alen (v := 0) F hP rt_a12 rfl dX12_rowed_9 ?_
    refine lv_icmp_ge (tgt := 22) hx hb dX12_rowed_10 (by decide) (fun hc10 => ?_) (fun hc10 => ?_)
    · replace hw := hw.1 hc10
      exact J22 M _ _ _ hw hP hS (lv_sub hl [] rfl)
    · replace hw := hw.2 hc10
      refine lv_aload_n hx hb dX12_rowed_13 rfl (lv_at hl 0 rfl) ?_
      refine rt_get F hP (rt_c12 _ rt_k0) (rt_l12 rt_k0) inX12 rfl 3 (by decide) kw_1143 rfl rfl dX12_rowed_14 ?_
      refine lv_iload_n hx hb dX12_rowed_17 rfl (lv_at hl 1 rfl) ?_
      have hv18 := hw.1
      replace hw := hw.2
      refine rt_iald F hP rt_a12 hv18 dX12_rowed_18 ?_
      refine lv_goto (tgt := 23) hx hb dX12_rowed_19 (by decide) ?_
      exact J23 (M 12 (Int32.toNatClampNeg p1)) M _ _ _ hw hP hS (lv_sub hl [] rfl)
-- ===== X12_rowAt
def wpX12_rowAt (p1 : Int32) (M : pt_M) (Q : Int32 → pt_M → Prop) : Prop :=
  wpX12_rowed p1 M (fun (r_3 : Int32) (M_3 : pt_M) => wpX12_plain r_3 M_3 (fun (r_6 : Int32) (M_6 : pt_M) => Q r_6 M_6))
set_option maxHeartbeats 4000000 in
set_option maxRecDepth 100000 in
theorem mtX12_rowAt (l : Launch) (D : va_G) (cA : Nat → ClassId) (ad : Nat → Nat) (hI : rt_I ad) (sz : Nat) (p1 : Int32) (M : pt_M) (Q : Int32 → pt_M → Prop) (hw : wpX12_rowAt p1 M Q) : Met l yX12_rowAt (Cond.code yX12_rowAt cX12_rowAt 2 (some .int) :: lw_all) ({ frames := 1, cells := 0, slots := 0, locals := 21 } : Room) (va_Pc [.ref (ad 0), .int p1] (rt_P D cA ad sz M)) (va_Qi Q (rt_B D cA ad) (rt_fr ad sz)) 0 0 (rt_fr ad sz) := by
  refine Met.ofW (cc := cX12_rowAt) (maxL := 2) (ret := (some .int)) (by decide) rfl ?_
  intro p e s m args below meth c s₁ B hml hv
  obtain ⟨rfl, hsz, hP, hK, hN⟩ := hv
  have hx := B.exec
  have hb := B.bytes
  have hr := B.returns
  have hts0 := atoms_spec (ws := (Cond.code yX12_rowAt cX12_rowAt 2 (some .int) :: lw_all)) B.pre
  have hown : s.vm.findClass RX12 = some m.cls := findClass_of_methodNamed B.named
  have hlocks := B.notSynchronized
  subst hsz
  have F : pt_F p m c cX12_rowAt 2 s _ RX12 D cA := ⟨⟨hx, hb, hml, hown, fun w h => hts0 w (List.mem_cons_of_mem _ h)⟩, hK⟩
  have hD : ∀ M, va_D (rt_fr ad s.heap.size) (rt_W cA ad M) := rt_D hI (fun k h => Or.inl ⟨k, h, rfl⟩)
  have hS : va_S (rt_fr ad s.heap.size) s.heap s.heap [] := va_S.rf
  have hl := lv_entry ([.ref (ad 0), .int p1]) (n := 2) (Nat.le_of_ble_eq_true rfl)
  rw [lg_entry_eq]
  generalize (lg_sl ([.ref (ad 0), .int p1]) ++ List.replicate (2 - (lg_sl ([.ref (ad 0), .int p1])).length) Slot.unset).toArray = ls at hl ⊢
  have hl : lv_has ls 2 [(0, .ref (ad 0)), (1, .int p1)] := hl
  unfold wpX12_rowAt at hw
  refine lv_aload_n hx hb dX12_rowAt_0 rfl (lv_at hl 0 rfl) ?_
  refine lv_aload_n hx hb dX12_rowAt_1 rfl (lv_at hl 0 rfl) ?_
  refine lv_iload_n hx hb dX12_rowAt_2 rfl (lv_at hl 1 rfl) ?_
  refine rt_calli (rt_runV (n := 1) (As := [.int p1]) (rest := [.ref (ad 0)]) F hP hN hS (rt_frs hS.1) (rt_c12 _ rt_k0) (rt_l12 rt_k0) rfl (mtX12_rowed l D cA ad hI _ p1 M _ hw) kw_1622 kw_1619 kw_60 kw_1621 kw_50 ⟨by decide, by decide, by decide +kernel⟩ ⟨rfl, rfl, Nat.le_of_ble_eq_true rfl, Nat.le_of_ble_eq_true rfl⟩ rfl hl.1 rfl (Nat.le_of_ble_eq_true rfl) dX12_rowAt_3 ⟨Nat.zero_le _, Nat.zero_le _⟩) hS (fun _ h => h) (fun r_3 M_3 H locs hw hP hS _ _ => ?_)
  refine rt_calli (rt_runV (n := 1) (As := [.int r_3]) (rest := []) F hP hN hS (rt_frs hS.1) (rt_c12 _ rt_k0) (rt_l12 rt_k0) rfl (mtX12_plain l D cA ad hI _ r_3 M_3 _ hw) kw_1469 kw_1466 kw_60 kw_1468 kw_44 ⟨by decide, by decide, by decide +kernel⟩ ⟨rfl, rfl, Nat.le_of_ble_eq_true rfl, Nat.le_of_ble_eq_true rfl⟩ rfl hl.1 rfl (Nat.le_of_ble_eq_true rfl) dX12_rowAt_6 ⟨Nat.zero_le _, Nat.zero_le _⟩) hS (fun _ h => h) (fun r_6 M_6 H locs hw hP hS _ _ => ?_)
  exact W.iret (v := r_6) hx hb hr (fun t ht hW => ⟨⟨r_6, M_6, rfl, hw, by unfold rt_B; rw [ht]; exact hP⟩, hS.F ht⟩) hS.2.2 dX12_rowAt_9
-- ===== X12_looked
def wpX12_looked  (M : pt_M) (Q : Int32 → pt_M → Prop) : Prop :=
  wpX12_plain (M 0 4) M (fun (r_5 : Int32) (M_5 : pt_M) => Q r_5 M_5)
set_option maxHeartbeats 4000000 in
set_option maxRecDepth 100000 in
theorem mtX12_looked (l : Launch) (D : va_G) (cA : Nat → ClassId) (ad : Nat → Nat) (hI : rt_I ad) (sz : Nat) (M : pt_M) (Q : Int32 → pt_M → Prop) (hw : wpX12_looked M Q) : Met l yX12_looked (Cond.code yX12_looked cX12_looked 1 (some .int) :: lw_all) ({ frames := 1, cells := 0, slots := 0, locals := 21 } : Room) (va_Pc [.ref (ad 0)] (rt_P D cA ad sz M)) (va_Qi Q (rt_B D cA ad) (rt_fr ad sz)) 0 0 (rt_fr ad sz) := by
  refine Met.ofW (cc := cX12_looked) (maxL := 1) (ret := (some .int)) (by decide) rfl ?_
  intro p e s m args below meth c s₁ B hml hv
  obtain ⟨rfl, hsz, hP, hK, hN⟩ := hv
  have hx := B.exec
  have hb := B.bytes
  have hr := B.returns
  have hts0 := atoms_spec (ws := (Cond.code yX12_looked cX12_looked 1 (some .int) :: lw_all)) B.pre
  have hown : s.vm.findClass RX12 = some m.cls := findClass_of_methodNamed B.named
  have hlocks := B.notSynchronized
  subst hsz
  have F : pt_F p m c cX12_looked 1 s _ RX12 D cA := ⟨⟨hx, hb, hml, hown, fun w h => hts0 w (List.mem_cons_of_mem _ h)⟩, hK⟩
  have hD : ∀ M, va_D (rt_fr ad s.heap.size) (rt_W cA ad M) := rt_D hI (fun k h => Or.inl ⟨k, h, rfl⟩)
  have hS : va_S (rt_fr ad s.heap.size) s.heap s.heap [] := va_S.rf
  have hl := lv_entry ([.ref (ad 0)]) (n := 1) (Nat.le_of_ble_eq_true rfl)
  rw [lg_entry_eq]
  generalize (lg_sl ([.ref (ad 0)]) ++ List.replicate (1 - (lg_sl ([.ref (ad 0)])).length) Slot.unset).toArray = ls at hl ⊢
  have hl : lv_has ls 1 [(0, .ref (ad 0))] := hl
  unfold wpX12_looked at hw
  refine lv_aload_n hx hb dX12_looked_0 rfl (lv_at hl 0 rfl) ?_
  refine lv_aload_n hx hb dX12_looked_1 rfl (lv_at hl 0 rfl) ?_
  refine rt_get F hP (rt_c12 _ rt_k0) (rt_l12 rt_k0) inX12 rfl 4 (by decide) kw_1144 rfl rfl dX12_looked_2 ?_
  refine rt_calli (rt_runV (n := 1) (As := [.int (M 0 4)]) (rest := []) F hP hN hS (rt_frs hS.1) (rt_c12 _ rt_k0) (rt_l12 rt_k0) rfl (mtX12_plain l D cA ad hI _ (M 0 4) M _ hw) kw_1469 kw_1466 kw_60 kw_1468 kw_44 ⟨by decide, by decide, by decide +kernel⟩ ⟨rfl, rfl, Nat.le_of_ble_eq_true rfl, Nat.le_of_ble_eq_true rfl⟩ rfl hl.1 rfl (Nat.le_of_ble_eq_true rfl) dX12_looked_5 ⟨Nat.zero_le _, Nat.zero_le _⟩) hS (fun _ h => h) (fun r_5 M_5 H locs hw hP hS _ _ => ?_)
  exact W.iret (v := r_5) hx hb hr (fun t ht hW => ⟨⟨r_5, M_5, rfl, hw, by unfold rt_B; rw [ht]; exact hP⟩, hS.F ht⟩) hS.2.2 dX12_looked_8
-- ===== X12_meanAge
def wjX12_meanAge_87  (Q : UInt64 → pt_M → Prop)  (xs0 : UInt64) (M : pt_M) : Prop :=
  Q xs0 M
def wjX12_meanAge_51  (Q : UInt64 → pt_M → Prop) (R9 : Int32 → Int32 → pt_M → Prop) (x2 : Int32) (xs0 : Int32) (xs1 : Int32) (M : pt_M) : Prop :=
  ∀ x1_52 : Int32, x1_52 = (xs0 + xs1) → ∀ x2_53 : Int32, x2_53 = x2 + 1 → R9 x1_52 x2_53 M
def lbX12_meanAge_9  (Q : UInt64 → pt_M → Prop)  (R9 : Int32 → Int32 → pt_M → Prop) (x1 : Int32) (x2 : Int32) (M : pt_M) : Prop :=
  wpJx4a65c_size_8abf5 2 M (fun (r_17 : Int32) (M_17 : pt_M) => (r_17 ≤ x2 → (¬ (M_17 6 1) = 0 → wpPJ6_bitCount (M_17 6 1) M_17 (fun (r_82 : Int32) (_ : pt_M) => vf_n64 (FP.ddiv (FP.i2d x1) (FP.i2d r_82)) ∧ (wjX12_meanAge_87 Q (FP.ddiv (FP.i2d x1) (FP.i2d r_82)) M_17))) ∧ ((M_17 6 1) = 0 → wjX12_meanAge_87 Q 0 M_17)) ∧ (¬ r_17 ≤ x2 → wpX12_has (M_17 6 1) x2 M_17 (fun (r_32 : Int32) (M_32 : pt_M) => (r_32 = 0 → wjX12_meanAge_51 Q R9 x2 x1 0 M_32) ∧ (¬ r_32 = 0 → vp_in x2 20 ∧ (wjX12_meanAge_51 Q R9 x2 x1 (M_32 7 (Int32.toNatClampNeg x2)) M_32)))))
def lpX12_meanAge_9  (Q : UInt64 → pt_M → Prop)  : Nat → Int32 → Int32 → pt_M → Prop
  | 0 => fun _ _ _ => False
  | n + 1 => fun x1 x2 M => lbX12_meanAge_9 Q (lpX12_meanAge_9 Q n) x1 x2 M
def wpX12_meanAge  (M : pt_M) (Q : UInt64 → pt_M → Prop) : Prop :=
  ∀ M_2 : pt_M, M_2 = pt_st M 0 0 0 → ∃ n : Nat, lpX12_meanAge_9 Q n 0 0 M_2
set_option maxHeartbeats 4000000 in
set_option maxRecDepth 100000 in
theorem mtX12_meanAge (l : Launch) (D : va_G) (cA : Nat → ClassId) (ad : Nat → Nat) (hI : rt_I ad) (sz : Nat) (M : pt_M) (Q : UInt64 → pt_M → Prop) (hw : wpX12_meanAge M Q) : Met l yX12_meanAge (Cond.code yX12_meanAge cX12_meanAge 3 (some .double) :: lw_all) ({ frames := 1, cells := 0, slots := 0, locals := 21 } : Room) (va_Pc [.ref (ad 0)] (rt_P D cA ad sz M)) (va_Qd Q (rt_B D cA ad) (rt_fr ad sz)) 0 0 (rt_fr ad sz) := by
  refine Met.ofW (cc := cX12_meanAge) (maxL := 3) (ret := (some .double)) (by decide) rfl ?_
  intro p e s m args below meth c s₁ B hml hv
  obtain ⟨rfl, hsz, hP, hK, hN⟩ := hv
  have hx := B.exec
  have hb := B.bytes
  have hr := B.returns
  have hts0 := atoms_spec (ws := (Cond.code yX12_meanAge cX12_meanAge 3 (some .double) :: lw_all)) B.pre
  have hown : s.vm.findClass RX12 = some m.cls := findClass_of_methodNamed B.named
  have hlocks := B.notSynchronized
  subst hsz
  have F : pt_F p m c cX12_meanAge 3 s _ RX12 D cA := ⟨⟨hx, hb, hml, hown, fun w h => hts0 w (List.mem_cons_of_mem _ h)⟩, hK⟩
  have hD : ∀ M, va_D (rt_fr ad s.heap.size) (rt_W cA ad M) := rt_D hI (fun k h => Or.inl ⟨k, h, rfl⟩)
  have hS : va_S (rt_fr ad s.heap.size) s.heap s.heap [] := va_S.rf
  have hl := lv_entry ([.ref (ad 0)]) (n := 3) (Nat.le_of_ble_eq_true rfl)
  rw [lg_entry_eq]
  generalize (lg_sl ([.ref (ad 0)]) ++ List.replicate (3 - (lg_sl ([.ref (ad 0)])).length) Slot.unset).toArray = ls at hl ⊢
  have hl : lv_has ls 3 [(0, .ref (ad 0))] := hl
  have J87 : ∀ (xs0 : UInt64) (M : pt_M) (H : Heap) (locs : List Loc) (ls : Array Slot), wjX12_meanAge_87 Q xs0 M → va_P D pt_cl (rt_W cA ad M) H → va_S (rt_fr ad s.heap.size) s.heap H locs → lv_has ls 3 [] → W p l e (headSpec (Cond.code yX12_meanAge cX12_meanAge 3 (some .double) :: lw_all) ({ frames := 1, cells := 0, slots := 0, locals := 21 } : Room)).room s m ([.ref (ad 0)] : List Value).toArray below meth c H locs 0 0 (MQ below (va_Qd Q (rt_B D cA ad) (rt_fr ad s.heap.size)) ([.ref (ad 0)] : List Value).toArray s 0 0 (rt_fr ad s.heap.size)) (F0 m 87 ls [.double xs0]) := by
    intro xs0 M H locs ls hw hP hS hl
    unfold wjX12_meanAge_87 at hw
    exact W.dret (v := xs0) hx hb hr (fun t ht hW => ⟨⟨xs0, M, rfl, hw, by unfold rt_B; rw [ht]; exact hP⟩, hS.F ht⟩) hS.2.2 dX12_meanAge_87
  have L9 : ∀ (n9 : Nat) (x1 : Int32) (x2 : Int32) (M : pt_M) (H : Heap) (locs : List Loc) (ls : Array Slot), lpX12_meanAge_9 Q n9 x1 x2 M → va_P D pt_cl (rt_W cA ad M) H → va_S (rt_fr ad s.heap.size) s.heap H locs → lv_has ls 3 [(0, .ref (ad 0)), (1, .int x1), (2, .int x2)] → W p l e (headSpec (Cond.code yX12_meanAge cX12_meanAge 3 (some .double) :: lw_all) ({ frames := 1, cells := 0, slots := 0, locals := 21 } : Room)).room s m ([.ref (ad 0)] : List Value).toArray below meth c H locs 0 0 (MQ below (va_Qd Q (rt_B D cA ad) (rt_fr ad s.heap.size)) ([.ref (ad 0)] : List Value).toArray s 0 0 (rt_fr ad s.heap.size)) (F0 m 9 ls []) := by
    intro n9
    induction n9 with
    | zero => intro x1 x2 M H locs ls hw; exact hw.elim
    | succ n9 ih9 =>
      have J51 : ∀ (x2 : Int32) (xs0 : Int32) (xs1 : Int32) (M : pt_M) (H : Heap) (locs : List Loc) (ls : Array Slot), wjX12_meanAge_51 Q (lpX12_meanAge_9 Q n9) x2 xs0 xs1 M → va_P D pt_cl (rt_W cA ad M) H → va_S (rt_fr ad s.heap.size) s.heap H locs → lv_has ls 3 [(0, .ref (ad 0)), (2, .int x2)] → W p l e (headSpec (Cond.code yX12_meanAge cX12_meanAge 3 (some .double) :: lw_all) ({ frames := 1, cells := 0, slots := 0, locals := 21 } : Room)).room s m ([.ref (ad 0)] : List Value).toArray below meth c H locs 0 0 (MQ below (va_Qd Q (rt_B D cA ad) (rt_fr ad s.heap.size)) ([.ref (ad 0)] : List Value).toArray s 0 0 (rt_fr ad s.heap.size)) (F0 m 51 ls [.int xs1, .int xs0]) := by
        intro x2 xs0 xs1 M H locs ls hw hP hS hl
        unfold wjX12_meanAge_51 at hw
        refine lv_iadd hx hb dX12_meanAge_51 ?_
        refine lv_topi (fun x1_52 ex1_52 => ?_)
        replace hw := hw x1_52 ex1_52
        refine lv_istore_n (lv' := [(1, .int x1_52), (0, .ref (ad 0)), (2, .int x2)]) hx hb dX12_meanAge_52 rfl hl (by decide) rfl (fun ls hl => ?_)
        obtain ⟨x2_53, ex2_53⟩ : ∃ y : Int32, y = x2 + 1 := ⟨_, rfl⟩
        replace hw := hw x2_53 ex2_53
        refine lv_iinc (v := x2_53) (lv' := [(2, .int x2_53), (1, .int x1_52), (0, .ref (ad 0))]) hx hb dX12_meanAge_53 hl (k := 2) rfl (by rw [ex2_53]; rfl) (by decide) rfl (fun ls hl => ?_)
        refine lv_goto (tgt := 9) hx hb dX12_meanAge_56 (by decide) ?_
        exact ih9 x1_52 x2_53 M _ _ _ hw hP hS (lv_sub hl [2, 1, 0] rfl)
      intro x1 x2 M H locs ls hw hP hS hl
      replace hw : lbX12_meanAge_9 Q (lpX12_meanAge_9 Q n9) x1 x2 M := hw
      unfold lbX12_meanAge_9 at hw
      refine lv_iload_n hx hb dX12_meanAge_9 rfl (lv_at hl 2 rfl) ?_
      refine lv_aload_n hx hb dX12_meanAge_10 rfl (lv_at hl 0 rfl) ?_
      refine rt_get F hP (rt_c12 _ rt_k0) (rt_l12 rt_k0) inX12 rfl 1 (by decide) kw_1140 rfl rfl dX12_meanAge_11 ?_
      refine rt_get F hP (rt_c8 _ rt_k1) (rt_l8 rt_k1) inX8 rfl 0 (by decide) kw_985 rfl rfl dX12_meanAge_14 ?_
      refine rt_calli (rt_runV (n := 0) (As := []) (rest := [.int x2]) F hP hN hS (rt_frs hS.1) (rt_c13 _ rt_k2) (rt_l13 rt_k2) rfl (mtJx4a65c_size_8abf5 l D cA ad hI _ 2 rt_k2 M _ hw) kw_1167 kw_1164 kw_64 kw_1165 kw_1166 ⟨by decide, by decide, by decide +kernel⟩ ⟨rfl, rfl, Nat.le_of_ble_eq_true rfl, Nat.le_of_ble_eq_true rfl⟩ rfl hl.1 rfl (Nat.le_of_ble_eq_true rfl) dX12_meanAge_17 ⟨Nat.zero_le _, Nat.zero_le _⟩) hS (fun _ h => h) (fun r_17 M_17 H locs hw hP hS _ _ => ?_)
      refine lv_icmp_ge (tgt := 59) hx hb dX12_meanAge_20 (by decide) (fun hc20 => ?_) (fun hc20 => ?_)
      · replace hw := hw.1 hc20
        refine lv_aload_n hx hb dX12_meanAge_59 rfl (lv_at hl 0 rfl) ?_
        refine rt_get F hP (rt_c12 _ rt_k0) (rt_l12 rt_k0) inX12 rfl 2 (by decide) kw_1142 rfl rfl dX12_meanAge_60 ?_
        refine rt_get F hP (rt_c9 _ rt_k6) (rt_l9 rt_k6) inX9 rfl 1 (by decide) kw_1006 rfl rfl dX12_meanAge_63 ?_
        refine lv_if_ne (tgt := 73) hx hb dX12_meanAge_66 (by decide) (fun hc66 => ?_) (fun hc66 => ?_)
        · replace hw := hw.1 hc66
          refine lv_iload_n hx hb dX12_meanAge_73 rfl (lv_at hl 1 rfl) ?_
          refine lv_i2d hx hb dX12_meanAge_74 ?_
          refine lv_aload_n hx hb dX12_meanAge_75 rfl (lv_at hl 0 rfl) ?_
          refine rt_get F hP (rt_c12 _ rt_k0) (rt_l12 rt_k0) inX12 rfl 2 (by decide) kw_1142 rfl rfl dX12_meanAge_76 ?_
          refine rt_get F hP (rt_c9 _ rt_k6) (rt_l9 rt_k6) inX9 rfl 1 (by decide) kw_1006 rfl rfl dX12_meanAge_79 ?_
          refine rt_callp (pt_runP (n := 1) (As := [.int (M_17 6 1)]) (rest := [.double (FP.i2d x1)]) F (mtPJ6_bitCount l D cA (M_17 6 1) M_17 _ hw) rt_kblind (fun U _ hW => va_K.moved hW.alike F.2) kw_443 kw_1445 kw_80 kw_442 ⟨by decide, by decide, by decide +kernel⟩ ⟨rfl, rfl, (Nat.le_of_ble_eq_true rfl), (Nat.le_of_ble_eq_true rfl)⟩ rfl hl.1 rfl (Nat.le_of_ble_eq_true rfl) dX12_meanAge_82 ⟨Nat.zero_le _, Nat.zero_le _⟩) hP hS (fun r_82 H locs hw hP hS => ?_)
          refine lv_i2d hx hb dX12_meanAge_85 ?_
          have hz86 := hw.1
          replace hw := hw.2
          refine lv_ddiv hx hb dX12_meanAge_86 hz86 ?_
          exact J87 (FP.ddiv (FP.i2d x1) (FP.i2d r_82)) M_17 _ _ _ hw hP hS (lv_sub hl [] rfl)
        · replace hw := hw.2 hc66
          refine lv_dconst0 hx hb dX12_meanAge_69 ?_
          refine lv_goto (tgt := 87) hx hb dX12_meanAge_70 (by decide) ?_
          exact J87 0 M_17 _ _ _ hw hP hS (lv_sub hl [] rfl)
      · replace hw := hw.2 hc20
        refine lv_iload_n hx hb dX12_meanAge_23 rfl (lv_at hl 1 rfl) ?_
        refine lv_aload_n hx hb dX12_meanAge_24 rfl (lv_at hl 0 rfl) ?_
        refine rt_get F hP (rt_c12 _ rt_k0) (rt_l12 rt_k0) inX12 rfl 2 (by decide) kw_1142 rfl rfl dX12_meanAge_25 ?_
        refine rt_get F hP (rt_c9 _ rt_k6) (rt_l9 rt_k6) inX9 rfl 1 (by decide) kw_1006 rfl rfl dX12_meanAge_28 ?_
        refine lv_iload_n hx hb dX12_meanAge_31 rfl (lv_at hl 2 rfl) ?_
        refine rt_calli (rt_runS (n := 2) (As := [.int (M_17 6 1), .int x2]) (rest := [.int x1]) F hP hN hS (rt_frs hS.1) (mtX12_has l D cA ad hI _ (M_17 6 1) x2 M_17 _ hw) kw_1226 kw_1224 kw_60 kw_1225 ⟨by decide, by decide, by decide +kernel⟩ ⟨rfl, rfl, Nat.le_of_ble_eq_true rfl, Nat.le_of_ble_eq_true rfl⟩ rfl hl.1 rfl (Nat.le_of_ble_eq_true rfl) dX12_meanAge_32 ⟨Nat.zero_le _, Nat.zero_le _⟩) hS (fun _ h => h) (fun r_32 M_32 H locs hw hP hS _ _ => ?_)
        refine lv_if_eq (tgt := 50) hx hb dX12_meanAge_35 (by decide) (fun hc35 => ?_) (fun hc35 => ?_)
        · replace hw := hw.1 hc35
          refine lv_iconst (v := 0) hx hb dX12_meanAge_50 (by decide) ?_
          exact J51 x2 x1 0 M_32 _ _ _ hw hP hS (lv_sub hl [0, 2] rfl)
        · replace hw := hw.2 hc35
          refine lv_aload_n hx hb dX12_meanAge_38 rfl (lv_at hl 0 rfl) ?_
          refine rt_get F hP (rt_c12 _ rt_k0) (rt_l12 rt_k0) inX12 rfl 2 (by decide) kw_1142 rfl rfl dX12_meanAge_39 ?_
          refine rt_get F hP (rt_c9 _ rt_k6) (rt_l9 rt_k6) inX9 rfl 2 (by decide) kw_1008 rfl rfl dX12_meanAge_42 ?_
          refine lv_iload_n hx hb dX12_meanAge_45 rfl (lv_at hl 2 rfl) ?_
          have hv46 := hw.1
          replace hw := hw.2
          refine rt_iald F hP rt_a7 hv46 dX12_meanAge_46 ?_
          refine lv_goto (tgt := 51) hx hb dX12_meanAge_47 (by decide) ?_
          exact J51 x2 x1 (M_32 7 (Int32.toNatClampNeg x2)) M_32 _ _ _ hw hP hS (lv_sub hl [0, 2] rfl)
  unfold wpX12_meanAge at hw
  refine lv_aload_n hx hb dX12_meanAge_0 rfl (lv_at hl 0 rfl) ?_
  refine lv_iconst (v := 0) hx hb dX12_meanAge_1 (by decide) ?_
  refine rt_put F hP hD hS (rt_c12 _ rt_k0) (rt_l12 rt_k0) inX12 tyX12 tyX12_ok nmX12 rfl 0 (by decide) kw_1139 rfl rfl rfl rfl (Nat.le_of_ble_eq_true rfl) (rt_c12 _ rt_k0) dX12_meanAge_2 (fun M_2 H locs eM_2 hP hS => ?_)
  replace hw := hw M_2 eM_2
  refine lv_iconst (v := 0) hx hb dX12_meanAge_5 (by decide) ?_
  refine lv_istore_n (lv' := [(1, .int 0), (0, .ref (ad 0))]) hx hb dX12_meanAge_6 rfl hl (by decide) rfl (fun ls hl => ?_)
  refine lv_iconst (v := 0) hx hb dX12_meanAge_7 (by decide) ?_
  refine lv_istore_n (lv' := [(2, .int 0), (1, .int 0), (0, .ref (ad 0))]) hx hb dX12_meanAge_8 rfl hl (by decide) rfl (fun ls hl => ?_)
  obtain ⟨n_, hw⟩ := hw
  exact L9 n_ 0 0 M_2 _ _ _ hw hP hS (lv_sub hl [2, 1, 0] rfl)
-- ===== X12_add
def wpX12_add (p1 : Int64) (p2 : Int64) (M : pt_M) (Q : Int64 → pt_M → Prop) : Prop :=
  Q ((p1 * 31) + p2) M
set_option maxHeartbeats 4000000 in
set_option maxRecDepth 100000 in
theorem mtX12_add (l : Launch) (D : va_G) (cA : Nat → ClassId) (ad : Nat → Nat) (hI : rt_I ad) (sz : Nat) (p1 : Int64) (p2 : Int64) (M : pt_M) (Q : Int64 → pt_M → Prop) (hw : wpX12_add p1 p2 M Q) : Met l yX12_add (Cond.code yX12_add cX12_add 4 (some .long) :: lw_all) ({ frames := 0, cells := 0, slots := 0, locals := 0 } : Room) (va_Pc [.long p1, .long p2] (rt_P D cA ad sz M)) (va_Ql Q (rt_B D cA ad) (rt_fr ad sz)) 0 0 (rt_fr ad sz) := by
  refine Met.ofW (cc := cX12_add) (maxL := 4) (ret := (some .long)) (by decide) rfl ?_
  intro p e s m args below meth c s₁ B hml hv
  obtain ⟨rfl, hsz, hP, hK, hN⟩ := hv
  have hx := B.exec
  have hb := B.bytes
  have hr := B.returns
  have hts0 := atoms_spec (ws := (Cond.code yX12_add cX12_add 4 (some .long) :: lw_all)) B.pre
  have hown : s.vm.findClass RX12 = some m.cls := findClass_of_methodNamed B.named
  have hlocks := B.notSynchronized
  subst hsz
  have F : pt_F p m c cX12_add 4 s _ RX12 D cA := ⟨⟨hx, hb, hml, hown, fun w h => hts0 w (List.mem_cons_of_mem _ h)⟩, hK⟩
  have hD : ∀ M, va_D (rt_fr ad s.heap.size) (rt_W cA ad M) := rt_D hI (fun k h => Or.inl ⟨k, h, rfl⟩)
  have hS : va_S (rt_fr ad s.heap.size) s.heap s.heap [] := va_S.rf
  have hl := lv_entry ([.long p1, .long p2]) (n := 4) (Nat.le_of_ble_eq_true rfl)
  rw [lg_entry_eq]
  generalize (lg_sl ([.long p1, .long p2]) ++ List.replicate (4 - (lg_sl ([.long p1, .long p2])).length) Slot.unset).toArray = ls at hl ⊢
  have hl : lv_has ls 4 [(0, .long p1), (2, .long p2)] := hl
  unfold wpX12_add at hw
  refine lv_lload_n hx hb dX12_add_0 rfl (lv_at hl 0 rfl) ?_
  refine lv_ldc2 (v := 31) hx hb hown (F.1.2.2.2.2 _ kw_1639) dX12_add_1 ?_
  refine lv_lmul hx hb dX12_add_4 ?_
  refine lv_lload_n hx hb dX12_add_5 rfl (lv_at hl 1 rfl) ?_
  refine lv_ladd hx hb dX12_add_6 ?_
  exact W.lret (v := ((p1 * 31) + p2)) hx hb hr (fun t ht hW => ⟨⟨((p1 * 31) + p2), M, rfl, hw, by unfold rt_B; rw [ht]; exact hP⟩, hS.F ht⟩) hS.2.2 dX12_add_7
