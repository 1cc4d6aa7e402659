-- ===== X7_covered
def wjX7_covered_30  (Q : Int32 → pt_M → Prop) (R4 : Int32 → Int32 → pt_M → Prop) (x1 : Int32) (x2 : Int32) (M : pt_M) : Prop :=
  ∀ x2_30 : Int32, x2_30 = x2 + 1 → R4 x1 x2_30 M
def lbX7_covered_4  (Q : Int32 → pt_M → Prop)  (R4 : Int32 → Int32 → pt_M → Prop) (x1 : Int32) (x2 : Int32) (M : pt_M) : Prop :=
  ((M 1 4) ≤ x2 → Q x1 M) ∧ (¬ (M 1 4) ≤ x2 → vp_in x2 30 ∧ (((M (125 + 5) (Int32.toNatClampNeg x2)) ≤ 0 → wjX7_covered_30 Q R4 x1 x2 M) ∧ (¬ (M (125 + 5) (Int32.toNatClampNeg x2)) ≤ 0 → ∀ x1_27 : Int32, x1_27 = x1 + 1 → wjX7_covered_30 Q R4 x1_27 x2 M)))
def lpX7_covered_4  (Q : Int32 → pt_M → Prop)  : Nat → Int32 → Int32 → pt_M → Prop
  | 0 => fun _ _ _ => False
  | n + 1 => fun x1 x2 M => lbX7_covered_4 Q (lpX7_covered_4 Q n) x1 x2 M
def wpX7_covered  (M : pt_M) (Q : Int32 → pt_M → Prop) : Prop :=
  ∃ n : Nat, lpX7_covered_4 Q n 0 0 M
set_option maxHeartbeats 4000000 in
set_option maxRecDepth 100000 in
theorem mtX7_covered (l : Launch) (D : va_G) (cA : Nat → ClassId) (ad : Nat → Nat) (hI : pt_I ad) (sz : Nat) (M : pt_M) (Q : Int32 → pt_M → Prop) (hw : wpX7_covered M Q) : Met l yX7_covered (Cond.code yX7_covered cX7_covered 3 (some .int) :: lw_all) ({ frames := 0, cells := 0, slots := 0, locals := 0 } : Room) (va_Pc [.ref (ad 0)] (pt_P D cA ad sz M)) (va_Qi Q (pt_B D cA ad) (pt_fr ad sz)) 0 0 (pt_fr ad sz) := by
  refine Met.ofW (cc := cX7_covered) (maxL := 3) (ret := (some .int)) (by decide) rfl ?_
  intro p e s m args below meth c s₁ B hml hv
  obtain ⟨rfl, hsz, hP, hK⟩ := hv
  have hx := B.exec
  have hb := B.bytes
  have hr := B.returns
  have hts0 := atoms_spec (ws := (Cond.code yX7_covered cX7_covered 3 (some .int) :: lw_all)) B.pre
  have hown : s.vm.findClass RX7 = some m.cls := findClass_of_methodNamed B.named
  have hlocks := B.notSynchronized
  subst hsz
  have F : pt_F p m c cX7_covered 3 s _ RX7 D cA := ⟨⟨hx, hb, hml, hown, fun w h => hts0 w (List.mem_cons_of_mem _ h)⟩, hK⟩
  have hD : ∀ M, va_D (pt_fr ad s.heap.size) (pt_W cA ad M) := pt_D hI (fun k h => Or.inl ⟨k, h, rfl⟩)
  have hS : va_S (pt_fr ad s.heap.size) s.heap s.heap [] := va_S.rf
  have hl := lv_entry ([.ref (ad 0)]) (n := 3) (Nat.le_of_ble_eq_true rfl)
  rw [lg_entry_eq]
  generalize (lg_sl ([.ref (ad 0)]) ++ List.replicate (3 - (lg_sl ([.ref (ad 0)])).length) Slot.unset).toArray = ls at hl ⊢
  have hl : lv_has ls 3 [(0, .ref (ad 0))] := hl
  have L4 : ∀ (n4 : Nat) (x1 : Int32) (x2 : Int32) (M : pt_M) (H : Heap) (locs : List Loc) (ls : Array Slot), lpX7_covered_4 Q n4 x1 x2 M → va_P D pt_cl (pt_W cA ad M) H → va_S (pt_fr ad s.heap.size) s.heap H locs → lv_has ls 3 [(0, .ref (ad 0)), (1, .int x1), (2, .int x2)] → W p l e (headSpec (Cond.code yX7_covered cX7_covered 3 (some .int) :: lw_all) ({ frames := 0, cells := 0, slots := 0, locals := 0 } : Room)).room s m ([.ref (ad 0)] : List Value).toArray below meth c H locs 0 0 (MQ below (va_Qi Q (pt_B D cA ad) (pt_fr ad s.heap.size)) ([.ref (ad 0)] : List Value).toArray s 0 0 (pt_fr ad s.heap.size)) (F0 m 4 ls []) := by
    intro n4
    induction n4 with
    | zero => intro x1 x2 M H locs ls hw; exact hw.elim
    | succ n4 ih4 =>
      have J30 : ∀ (x1 : Int32) (x2 : Int32) (M : pt_M) (H : Heap) (locs : List Loc) (ls : Array Slot), wjX7_covered_30 Q (lpX7_covered_4 Q n4) x1 x2 M → va_P D pt_cl (pt_W cA ad M) H → va_S (pt_fr ad s.heap.size) s.heap H locs → lv_has ls 3 [(0, .ref (ad 0)), (1, .int x1), (2, .int x2)] → W p l e (headSpec (Cond.code yX7_covered cX7_covered 3 (some .int) :: lw_all) ({ frames := 0, cells := 0, slots := 0, locals := 0 } : Room)).room s m ([.ref (ad 0)] : List Value).toArray below meth c H locs 0 0 (MQ below (va_Qi Q (pt_B D cA ad) (pt_fr ad s.heap.size)) ([.ref (ad 0)] : List Value).toArray s 0 0 (pt_fr ad s.heap.size)) (F0 m 30 ls []) := by
        intro x1 x2 M H locs ls hw hP hS hl
        unfold wjX7_covered_30 at hw
        obtain ⟨x2_30, ex2_30⟩ : ∃ y : Int32, y = x2 + 1 := ⟨_, rfl⟩
        replace hw := hw x2_30 ex2_30
        refine lv_iinc (v := x2_30) (lv' := [(2, .int x2_30), (0, .ref (ad 0)), (1, .int x1)]) hx hb dX7_covered_30 hl (k := 2) rfl (by rw [ex2_30]; rfl) (by decide) rfl (fun ls hl => ?_)
        refine lv_goto (tgt := 4) hx hb dX7_covered_33 (by decide) ?_
        exact ih4 x1 x2_30 M _ _ _ hw hP hS (lv_sub hl [1, 2, 0] rfl)
      intro x1 x2 M H locs ls hw hP hS hl
      replace hw : lbX7_covered_4 Q (lpX7_covered_4 Q n4) x1 x2 M := hw
      unfold lbX7_covered_4 at hw
      refine lv_iload_n hx hb dX7_covered_4 rfl (lv_at hl 2 rfl) ?_
      refine lv_aload_n hx hb dX7_covered_5 rfl (lv_at hl 0 rfl) ?_
      refine pt_get F hP (pt_c7 _ pt_k0) (pt_l7 pt_k0) inX7 rfl 0 (by decide) kw_370 rfl rfl dX7_covered_6 ?_
      refine pt_get F hP (pt_c1 _ pt_k1) (pt_l1 pt_k1) inX1 rfl 4 (by decide) kw_234 rfl rfl dX7_covered_9 ?_
      refine lv_icmp_ge (tgt := 36) hx hb dX7_covered_12 (by decide) (fun hc12 => ?_) (fun hc12 => ?_)
      · replace hw := hw.1 hc12
        refine lv_iload_n hx hb dX7_covered_36 rfl (lv_at hl 1 rfl) ?_
        exact W.iret (v := x1) hx hb hr (fun t ht hW => ⟨⟨x1, M, rfl, hw, by unfold pt_B; rw [ht]; exact hP⟩, hS.F ht⟩) hS.2.2 dX7_covered_37
      · replace hw := hw.2 hc12
        refine lv_aload_n hx hb dX7_covered_15 rfl (lv_at hl 0 rfl) ?_
        refine pt_get F hP (pt_c7 _ pt_k0) (pt_l7 pt_k0) inX7 rfl 1 (by decide) kw_371 rfl rfl dX7_covered_16 ?_
        refine pt_get F hP (pt_c3 _ pt_k125) (pt_l3 pt_k125) inX3 rfl 2 (by decide) kw_294 rfl rfl dX7_covered_19 ?_
        refine lv_iload_n hx hb dX7_covered_22 rfl (lv_at hl 2 rfl) ?_
        have hv23 := hw.1
        replace hw := hw.2
        refine pt_iald F hP (pt_3f pt_k125) hv23 dX7_covered_23 ?_
        refine lv_if_le (tgt := 30) hx hb dX7_covered_24 (by decide) (fun hc24 => ?_) (fun hc24 => ?_)
        · replace hw := hw.1 hc24
          exact J30 x1 x2 M _ _ _ hw hP hS (lv_sub hl [0, 1, 2] rfl)
        · replace hw := hw.2 hc24
          obtain ⟨x1_27, ex1_27⟩ : ∃ y : Int32, y = x1 + 1 := ⟨_, rfl⟩
          replace hw := hw x1_27 ex1_27
          refine lv_iinc (v := x1_27) (lv' := [(1, .int x1_27), (0, .ref (ad 0)), (2, .int x2)]) hx hb dX7_covered_27 hl (k := 1) rfl (by rw [ex1_27]; rfl) (by decide) rfl (fun ls hl => ?_)
          exact J30 x1_27 x2 M _ _ _ hw hP hS (lv_sub hl [1, 0, 2] rfl)
  unfold wpX7_covered at hw
  refine lv_iconst (v := 0) hx hb dX7_covered_0 (by decide) ?_
  refine lv_istore_n (lv' := [(1, .int 0), (0, .ref (ad 0))]) hx hb dX7_covered_1 rfl hl (by decide) rfl (fun ls hl => ?_)
  refine lv_iconst (v := 0) hx hb dX7_covered_2 (by decide) ?_
  refine lv_istore_n (lv' := [(2, .int 0), (1, .int 0), (0, .ref (ad 0))]) hx hb dX7_covered_3 rfl hl (by decide) rfl (fun ls hl => ?_)
  obtain ⟨n_, hw⟩ := hw
  exact L4 n_ 0 0 M _ _ _ hw hP hS (lv_sub hl [2, 1, 0] rfl)
-- ===== X7_lost
def wpX7_lost  (M : pt_M) (Q : Int32 → pt_M → Prop) : Prop :=
  Q (M 125 5) M
set_option maxHeartbeats 4000000 in
set_option maxRecDepth 100000 in
theorem mtX7_lost (l : Launch) (D : va_G) (cA : Nat → ClassId) (ad : Nat → Nat) (hI : pt_I ad) (sz : Nat) (M : pt_M) (Q : Int32 → pt_M → Prop) (hw : wpX7_lost M Q) : Met l yX7_lost (Cond.code yX7_lost cX7_lost 1 (some .int) :: lw_all) ({ frames := 0, cells := 0, slots := 0, locals := 0 } : Room) (va_Pc [.ref (ad 0)] (pt_P D cA ad sz M)) (va_Qi Q (pt_B D cA ad) (pt_fr ad sz)) 0 0 (pt_fr ad sz) := by
  refine Met.ofW (cc := cX7_lost) (maxL := 1) (ret := (some .int)) (by decide) rfl ?_
  intro p e s m args below meth c s₁ B hml hv
  obtain ⟨rfl, hsz, hP, hK⟩ := hv
  have hx := B.exec
  have hb := B.bytes
  have hr := B.returns
  have hts0 := atoms_spec (ws := (Cond.code yX7_lost cX7_lost 1 (some .int) :: lw_all)) B.pre
  have hown : s.vm.findClass RX7 = some m.cls := findClass_of_methodNamed B.named
  have hlocks := B.notSynchronized
  subst hsz
  have F : pt_F p m c cX7_lost 1 s _ RX7 D cA := ⟨⟨hx, hb, hml, hown, fun w h => hts0 w (List.mem_cons_of_mem _ h)⟩, hK⟩
  have hD : ∀ M, va_D (pt_fr ad s.heap.size) (pt_W cA ad M) := pt_D hI (fun k h => Or.inl ⟨k, h, rfl⟩)
  have hS : va_S (pt_fr ad s.heap.size) s.heap s.heap [] := va_S.rf
  have hl := lv_entry ([.ref (ad 0)]) (n := 1) (Nat.le_of_ble_eq_true rfl)
  rw [lg_entry_eq]
  generalize (lg_sl ([.ref (ad 0)]) ++ List.replicate (1 - (lg_sl ([.ref (ad 0)])).length) Slot.unset).toArray = ls at hl ⊢
  have hl : lv_has ls 1 [(0, .ref (ad 0))] := hl
  unfold wpX7_lost at hw
  refine lv_aload_n hx hb dX7_lost_0 rfl (lv_at hl 0 rfl) ?_
  refine pt_get F hP (pt_c7 _ pt_k0) (pt_l7 pt_k0) inX7 rfl 1 (by decide) kw_371 rfl rfl dX7_lost_1 ?_
  refine pt_get F hP (pt_c3 _ pt_k125) (pt_l3 pt_k125) inX3 rfl 5 (by decide) kw_300 rfl rfl dX7_lost_4 ?_
  exact W.iret (v := (M 125 5)) hx hb hr (fun t ht hW => ⟨⟨(M 125 5), M, rfl, hw, by unfold pt_B; rw [ht]; exact hP⟩, hS.F ht⟩) hS.2.2 dX7_lost_7
-- ===== X7_restless
def wpX7_restless  (M : pt_M) (Q : Int32 → pt_M → Prop) : Prop :=
  Q (M 125 6) M
set_option maxHeartbeats 4000000 in
set_option maxRecDepth 100000 in
theorem mtX7_restless (l : Launch) (D : va_G) (cA : Nat → ClassId) (ad : Nat → Nat) (hI : pt_I ad) (sz : Nat) (M : pt_M) (Q : Int32 → pt_M → Prop) (hw : wpX7_restless M Q) : Met l yX7_restless (Cond.code yX7_restless cX7_restless 1 (some .int) :: lw_all) ({ frames := 0, cells := 0, slots := 0, locals := 0 } : Room) (va_Pc [.ref (ad 0)] (pt_P D cA ad sz M)) (va_Qi Q (pt_B D cA ad) (pt_fr ad sz)) 0 0 (pt_fr ad sz) := by
  refine Met.ofW (cc := cX7_restless) (maxL := 1) (ret := (some .int)) (by decide) rfl ?_
  intro p e s m args below meth c s₁ B hml hv
  obtain ⟨rfl, hsz, hP, hK⟩ := hv
  have hx := B.exec
  have hb := B.bytes
  have hr := B.returns
  have hts0 := atoms_spec (ws := (Cond.code yX7_restless cX7_restless 1 (some .int) :: lw_all)) B.pre
  have hown : s.vm.findClass RX7 = some m.cls := findClass_of_methodNamed B.named
  have hlocks := B.notSynchronized
  subst hsz
  have F : pt_F p m c cX7_restless 1 s _ RX7 D cA := ⟨⟨hx, hb, hml, hown, fun w h => hts0 w (List.mem_cons_of_mem _ h)⟩, hK⟩
  have hD : ∀ M, va_D (pt_fr ad s.heap.size) (pt_W cA ad M) := pt_D hI (fun k h => Or.inl ⟨k, h, rfl⟩)
  have hS : va_S (pt_fr ad s.heap.size) s.heap s.heap [] := va_S.rf
  have hl := lv_entry ([.ref (ad 0)]) (n := 1) (Nat.le_of_ble_eq_true rfl)
  rw [lg_entry_eq]
  generalize (lg_sl ([.ref (ad 0)]) ++ List.replicate (1 - (lg_sl ([.ref (ad 0)])).length) Slot.unset).toArray = ls at hl ⊢
  have hl : lv_has ls 1 [(0, .ref (ad 0))] := hl
  unfold wpX7_restless at hw
  refine lv_aload_n hx hb dX7_restless_0 rfl (lv_at hl 0 rfl) ?_
  refine pt_get F hP (pt_c7 _ pt_k0) (pt_l7 pt_k0) inX7 rfl 1 (by decide) kw_371 rfl rfl dX7_restless_1 ?_
  refine pt_get F hP (pt_c3 _ pt_k125) (pt_l3 pt_k125) inX3 rfl 6 (by decide) kw_302 rfl rfl dX7_restless_4 ?_
  exact W.iret (v := (M 125 6)) hx hb hr (fun t ht hW => ⟨⟨(M 125 6), M, rfl, hw, by unfold pt_B; rw [ht]; exact hP⟩, hS.F ht⟩) hS.2.2 dX7_restless_7
-- ===== X7_wouldFire
def wpX7_wouldFire (p1 : Int32) (M : pt_M) (Q : Int32 → pt_M → Prop) : Prop :=
  wpX7_checkRunning M (fun (M_1 : pt_M) => wpX7_checkEvent p1 M_1 (fun (M_5 : pt_M) => wpX4_copyFrom (133 + 1) (125 + 1) M_5 (fun (M_22 : pt_M) => wpX3_proceed 133 p1 M_22 (fun (r_30 : Int32) (M_30 : pt_M) => Q r_30 M_30))))
set_option maxHeartbeats 4000000 in
set_option maxRecDepth 100000 in
theorem mtX7_wouldFire (l : Launch) (D : va_G) (cA : Nat → ClassId) (ad : Nat → Nat) (hI : pt_I ad) (sz : Nat) (p1 : Int32) (M : pt_M) (Q : Int32 → pt_M → Prop) (hw : wpX7_wouldFire p1 M Q) : Met l yX7_wouldFire (Cond.code yX7_wouldFire cX7_wouldFire 2 (some .int) :: lw_all) ({ frames := 6, cells := 0, slots := 0, locals := 141 } : Room) (va_Pc [.ref (ad 0), .int p1] (pt_P D cA ad sz M)) (va_Qi Q (pt_B D cA ad) (pt_fr ad sz)) 0 0 (pt_fr ad sz) := by
  refine Met.ofW (cc := cX7_wouldFire) (maxL := 2) (ret := (some .int)) (by decide) rfl ?_
  intro p e s m args below meth c s₁ B hml hv
  obtain ⟨rfl, hsz, hP, hK⟩ := hv
  have hx := B.exec
  have hb := B.bytes
  have hr := B.returns
  have hts0 := atoms_spec (ws := (Cond.code yX7_wouldFire cX7_wouldFire 2 (some .int) :: lw_all)) B.pre
  have hown : s.vm.findClass RX7 = some m.cls := findClass_of_methodNamed B.named
  have hlocks := B.notSynchronized
  subst hsz
  have F : pt_F p m c cX7_wouldFire 2 s _ RX7 D cA := ⟨⟨hx, hb, hml, hown, fun w h => hts0 w (List.mem_cons_of_mem _ h)⟩, hK⟩
  have hD : ∀ M, va_D (pt_fr ad s.heap.size) (pt_W cA ad M) := pt_D hI (fun k h => Or.inl ⟨k, h, rfl⟩)
  have hS : va_S (pt_fr ad s.heap.size) s.heap s.heap [] := va_S.rf
  have hl := lv_entry ([.ref (ad 0), .int p1]) (n := 2) (Nat.le_of_ble_eq_true rfl)
  rw [lg_entry_eq]
  generalize (lg_sl ([.ref (ad 0), .int p1]) ++ List.replicate (2 - (lg_sl ([.ref (ad 0), .int p1])).length) Slot.unset).toArray = ls at hl ⊢
  have hl : lv_has ls 2 [(0, .ref (ad 0)), (1, .int p1)] := hl
  unfold wpX7_wouldFire at hw
  refine lv_aload_n hx hb dX7_wouldFire_0 rfl (lv_at hl 0 rfl) ?_
  refine pt_callv (pt_runV (n := 0) (As := []) (rest := []) F hP (pt_c7 _ pt_k0) (pt_l7 pt_k0) rfl (mtX7_checkRunning l D cA ad hI _ M _ hw) kw_831 kw_828 kw_52 kw_830 kw_21 ⟨by decide, by decide, by decide +kernel⟩ ⟨rfl, rfl, Nat.le_of_ble_eq_true rfl, Nat.le_of_ble_eq_true rfl⟩ rfl hl.1 rfl (Nat.le_of_ble_eq_true rfl) dX7_wouldFire_1 ⟨Nat.zero_le _, Nat.zero_le _⟩) hS (fun _ h => h) (fun M_1 H locs hw hP hS _ _ => ?_)
  refine lv_iload_n hx hb dX7_wouldFire_4 rfl (lv_at hl 1 rfl) ?_
  refine pt_callv (pt_runS (n := 1) (As := [.int p1]) (rest := []) F hP (mtX7_checkEvent l D cA ad hI _ p1 M_1 _ hw) kw_842 kw_840 kw_52 kw_841 ⟨by decide, by decide, by decide +kernel⟩ ⟨rfl, rfl, Nat.le_of_ble_eq_true rfl, Nat.le_of_ble_eq_true rfl⟩ rfl hl.1 rfl (Nat.le_of_ble_eq_true rfl) dX7_wouldFire_5 ⟨Nat.zero_le _, Nat.zero_le _⟩) hS (fun _ h => h) (fun M_5 H locs hw hP hS _ _ => ?_)
  refine lv_aload_n hx hb dX7_wouldFire_8 rfl (lv_at hl 0 rfl) ?_
  refine pt_get F hP (pt_c7 _ pt_k0) (pt_l7 pt_k0) inX7 rfl 2 (by decide) kw_372 rfl rfl dX7_wouldFire_9 ?_
  refine pt_get F hP (pt_c3 _ pt_k133) (pt_l3 pt_k133) inX3 rfl 1 (by decide) kw_292 rfl rfl dX7_wouldFire_12 ?_
  refine lv_aload_n hx hb dX7_wouldFire_15 rfl (lv_at hl 0 rfl) ?_
  refine pt_get F hP (pt_c7 _ pt_k0) (pt_l7 pt_k0) inX7 rfl 1 (by decide) kw_371 rfl rfl dX7_wouldFire_16 ?_
  refine pt_get F hP (pt_c3 _ pt_k125) (pt_l3 pt_k125) inX3 rfl 1 (by decide) kw_292 rfl rfl dX7_wouldFire_19 ?_
  refine pt_callv (pt_runV (n := 1) (As := [.ref (ad (125 + 1))]) (rest := []) F hP (pt_c4 _ (pt_3s pt_k133)) (pt_l4 (pt_3s pt_k133)) rfl (mtX4_copyFrom l D cA ad hI _ (133 + 1) (pt_3s pt_k133) (125 + 1) (pt_3s pt_k125) M_5 _ hw) kw_887 kw_884 kw_58 kw_885 kw_886 ⟨by decide, by decide, by decide +kernel⟩ ⟨rfl, rfl, Nat.le_of_ble_eq_true rfl, Nat.le_of_ble_eq_true rfl⟩ rfl hl.1 rfl (Nat.le_of_ble_eq_true rfl) dX7_wouldFire_22 ⟨Nat.zero_le _, Nat.zero_le _⟩) hS (fun _ h => h) (fun M_22 H locs hw hP hS _ _ => ?_)
  refine lv_aload_n hx hb dX7_wouldFire_25 rfl (lv_at hl 0 rfl) ?_
  refine pt_get F hP (pt_c7 _ pt_k0) (pt_l7 pt_k0) inX7 rfl 2 (by decide) kw_372 rfl rfl dX7_wouldFire_26 ?_
  refine lv_iload_n hx hb dX7_wouldFire_29 rfl (lv_at hl 1 rfl) ?_
  refine pt_calli (pt_runV (n := 1) (As := [.int p1]) (rest := []) F hP (pt_c3 _ pt_k133) (pt_l3 pt_k133) rfl (mtX3_proceed l D cA ad hI _ 133 pt_k133 p1 M_22 _ hw) kw_747 kw_744 kw_57 kw_745 kw_746 ⟨by decide, by decide, by decide +kernel⟩ ⟨rfl, rfl, Nat.le_of_ble_eq_true rfl, Nat.le_of_ble_eq_true rfl⟩ rfl hl.1 rfl (Nat.le_of_ble_eq_true rfl) dX7_wouldFire_30 ⟨Nat.zero_le _, Nat.zero_le _⟩) hS (fun _ h => h) (fun r_30 M_30 H locs hw hP hS _ _ => ?_)
  exact W.iret (v := r_30) hx hb hr (fun t ht hW => ⟨⟨r_30, M_30, rfl, hw, by unfold pt_B; rw [ht]; exact hP⟩, hS.F ht⟩) hS.2.2 dX7_wouldFire_33
-- ===== X7_wouldBe
def wpX7_wouldBe (p1 : Int32) (M : pt_M) (Q : Int32 → pt_M → Prop) : Prop :=
  wpX7_checkRunning M (fun (M_1 : pt_M) => wpX7_checkEvent p1 M_1 (fun (M_5 : pt_M) => wpX4_copyFrom (133 + 1) (125 + 1) M_5 (fun (M_22 : pt_M) => wpX3_proceed 133 p1 M_22 (fun (r_30 : Int32) (M_30 : pt_M) => Q (M_30 (133 + 1) 3) M_30))))
set_option maxHeartbeats 4000000 in
set_option maxRecDepth 100000 in
theorem mtX7_wouldBe (l : Launch) (D : va_G) (cA : Nat → ClassId) (ad : Nat → Nat) (hI : pt_I ad) (sz : Nat) (p1 : Int32) (M : pt_M) (Q : Int32 → pt_M → Prop) (hw : wpX7_wouldBe p1 M Q) : Met l yX7_wouldBe (Cond.code yX7_wouldBe cX7_wouldBe 2 (some .int) :: lw_all) ({ frames := 6, cells := 0, slots := 0, locals := 141 } : Room) (va_Pc [.ref (ad 0), .int p1] (pt_P D cA ad sz M)) (va_Qi Q (pt_B D cA ad) (pt_fr ad sz)) 0 0 (pt_fr ad sz) := by
  refine Met.ofW (cc := cX7_wouldBe) (maxL := 2) (ret := (some .int)) (by decide) rfl ?_
  intro p e s m args below meth c s₁ B hml hv
  obtain ⟨rfl, hsz, hP, hK⟩ := hv
  have hx := B.exec
  have hb := B.bytes
  have hr := B.returns
  have hts0 := atoms_spec (ws := (Cond.code yX7_wouldBe cX7_wouldBe 2 (some .int) :: lw_all)) B.pre
  have hown : s.vm.findClass RX7 = some m.cls := findClass_of_methodNamed B.named
  have hlocks := B.notSynchronized
  subst hsz
  have F : pt_F p m c cX7_wouldBe 2 s _ RX7 D cA := ⟨⟨hx, hb, hml, hown, fun w h => hts0 w (List.mem_cons_of_mem _ h)⟩, hK⟩
  have hD : ∀ M, va_D (pt_fr ad s.heap.size) (pt_W cA ad M) := pt_D hI (fun k h => Or.inl ⟨k, h, rfl⟩)
  have hS : va_S (pt_fr ad s.heap.size) s.heap s.heap [] := va_S.rf
  have hl := lv_entry ([.ref (ad 0), .int p1]) (n := 2) (Nat.le_of_ble_eq_true rfl)
  rw [lg_entry_eq]
  generalize (lg_sl ([.ref (ad 0), .int p1]) ++ List.replicate (2 - (lg_sl ([.ref (ad 0), .int p1])).length) Slot.unset).toArray = ls at hl ⊢
  have hl : lv_has ls 2 [(0, .ref (ad 0)), (1, .int p1)] := hl
  unfold wpX7_wouldBe at hw
  refine lv_aload_n hx hb dX7_wouldBe_0 rfl (lv_at hl 0 rfl) ?_
  refine pt_callv (pt_runV (n := 0) (As := []) (rest := []) F hP (pt_c7 _ pt_k0) (pt_l7 pt_k0) rfl (mtX7_checkRunning l D cA ad hI _ M _ hw) kw_831 kw_828 kw_52 kw_830 kw_21 ⟨by decide, by decide, by decide +kernel⟩ ⟨rfl, rfl, Nat.le_of_ble_eq_true rfl, Nat.le_of_ble_eq_true rfl⟩ rfl hl.1 rfl (Nat.le_of_ble_eq_true rfl) dX7_wouldBe_1 ⟨Nat.zero_le _, Nat.zero_le _⟩) hS (fun _ h => h) (fun M_1 H locs hw hP hS _ _ => ?_)
  refine lv_iload_n hx hb dX7_wouldBe_4 rfl (lv_at hl 1 rfl) ?_
  refine pt_callv (pt_runS (n := 1) (As := [.int p1]) (rest := []) F hP (mtX7_checkEvent l D cA ad hI _ p1 M_1 _ hw) kw_842 kw_840 kw_52 kw_841 ⟨by decide, by decide, by decide +kernel⟩ ⟨rfl, rfl, Nat.le_of_ble_eq_true rfl, Nat.le_of_ble_eq_true rfl⟩ rfl hl.1 rfl (Nat.le_of_ble_eq_true rfl) dX7_wouldBe_5 ⟨Nat.zero_le _, Nat.zero_le _⟩) hS (fun _ h => h) (fun M_5 H locs hw hP hS _ _ => ?_)
  refine lv_aload_n hx hb dX7_wouldBe_8 rfl (lv_at hl 0 rfl) ?_
  refine pt_get F hP (pt_c7 _ pt_k0) (pt_l7 pt_k0) inX7 rfl 2 (by decide) kw_372 rfl rfl dX7_wouldBe_9 ?_
  refine pt_get F hP (pt_c3 _ pt_k133) (pt_l3 pt_k133) inX3 rfl 1 (by decide) kw_292 rfl rfl dX7_wouldBe_12 ?_
  refine lv_aload_n hx hb dX7_wouldBe_15 rfl (lv_at hl 0 rfl) ?_
  refine pt_get F hP (pt_c7 _ pt_k0) (pt_l7 pt_k0) inX7 rfl 1 (by decide) kw_371 rfl rfl dX7_wouldBe_16 ?_
  refine pt_get F hP (pt_c3 _ pt_k125) (pt_l3 pt_k125) inX3 rfl 1 (by decide) kw_292 rfl rfl dX7_wouldBe_19 ?_
  refine pt_callv (pt_runV (n := 1) (As := [.ref (ad (125 + 1))]) (rest := []) F hP (pt_c4 _ (pt_3s pt_k133)) (pt_l4 (pt_3s pt_k133)) rfl (mtX4_copyFrom l D cA ad hI _ (133 + 1) (pt_3s pt_k133) (125 + 1) (pt_3s pt_k125) M_5 _ hw) kw_887 kw_884 kw_58 kw_885 kw_886 ⟨by decide, by decide, by decide +kernel⟩ ⟨rfl, rfl, Nat.le_of_ble_eq_true rfl, Nat.le_of_ble_eq_true rfl⟩ rfl hl.1 rfl (Nat.le_of_ble_eq_true rfl) dX7_wouldBe_22 ⟨Nat.zero_le _, Nat.zero_le _⟩) hS (fun _ h => h) (fun M_22 H locs hw hP hS _ _ => ?_)
  refine lv_aload_n hx hb dX7_wouldBe_25 rfl (lv_at hl 0 rfl) ?_
  refine pt_get F hP (pt_c7 _ pt_k0) (pt_l7 pt_k0) inX7 rfl 2 (by decide) kw_372 rfl rfl dX7_wouldBe_26 ?_
  refine lv_iload_n hx hb dX7_wouldBe_29 rfl (lv_at hl 1 rfl) ?_
  refine pt_calli (pt_runV (n := 1) (As := [.int p1]) (rest := []) F hP (pt_c3 _ pt_k133) (pt_l3 pt_k133) rfl (mtX3_proceed l D cA ad hI _ 133 pt_k133 p1 M_22 _ hw) kw_747 kw_744 kw_57 kw_745 kw_746 ⟨by decide, by decide, by decide +kernel⟩ ⟨rfl, rfl, Nat.le_of_ble_eq_true rfl, Nat.le_of_ble_eq_true rfl⟩ rfl hl.1 rfl (Nat.le_of_ble_eq_true rfl) dX7_wouldBe_30 ⟨Nat.zero_le _, Nat.zero_le _⟩) hS (fun _ h => h) (fun r_30 M_30 H locs hw hP hS _ _ => ?_)
  refine lv_pop hx hb dX7_wouldBe_33 rfl ?_
  refine lv_aload_n hx hb dX7_wouldBe_34 rfl (lv_at hl 0 rfl) ?_
  refine pt_get F hP (pt_c7 _ pt_k0) (pt_l7 pt_k0) inX7 rfl 2 (by decide) kw_372 rfl rfl dX7_wouldBe_35 ?_
  refine pt_get F hP (pt_c3 _ pt_k133) (pt_l3 pt_k133) inX3 rfl 1 (by decide) kw_292 rfl rfl dX7_wouldBe_38 ?_
  refine pt_get F hP (pt_c4 _ (pt_3s pt_k133)) (pt_l4 (pt_3s pt_k133)) inX4 rfl 3 (by decide) kw_279 rfl rfl dX7_wouldBe_41 ?_
  exact W.iret (v := (M_30 (133 + 1) 3)) hx hb hr (fun t ht hW => ⟨⟨(M_30 (133 + 1) 3), M_30, rfl, hw, by unfold pt_B; rw [ht]; exact hP⟩, hS.F ht⟩) hS.2.2 dX7_wouldBe_44
-- ===== X7_open
def wjX7_open_32  (Q : Int32 → pt_M → Prop) (R8 : Int32 → Int32 → pt_M → Prop) (x1 : Int32) (x2 : Int32) (M : pt_M) : Prop :=
  ∀ x2_32 : Int32, x2_32 = x2 + 1 → R8 x1 x2_32 M
def lbX7_open_8  (Q : Int32 → pt_M → Prop)  (R8 : Int32 → Int32 → pt_M → Prop) (x1 : Int32) (x2 : Int32) (M : pt_M) : Prop :=
  (10 ≤ x2 → Q x1 M) ∧ (¬ 10 ≤ x2 → wpX3_openBy 125 x2 M (fun (r_19 : Int32) (M_19 : pt_M) => (r_19 = 0 → wjX7_open_32 Q R8 x1 x2 M_19) ∧ (¬ r_19 = 0 → wpX7_setOf x2 M_19 (fun (r_27 : Int32) (M_27 : pt_M) => ∀ x1_31 : Int32, x1_31 = (x1 ||| r_27) → wjX7_open_32 Q R8 x1_31 x2 M_27))))
def lpX7_open_8  (Q : Int32 → pt_M → Prop)  : Nat → Int32 → Int32 → pt_M → Prop
  | 0 => fun _ _ _ => False
  | n + 1 => fun x1 x2 M => lbX7_open_8 Q (lpX7_open_8 Q n) x1 x2 M
def wpX7_open  (M : pt_M) (Q : Int32 → pt_M → Prop) : Prop :=
  wpX7_checkRunning M (fun (M_1 : pt_M) => ∃ n : Nat, lpX7_open_8 Q n 0 0 M_1)
set_option maxHeartbeats 4000000 in
set_option maxRecDepth 100000 in
theorem mtX7_open (l : Launch) (D : va_G) (cA : Nat → ClassId) (ad : Nat → Nat) (hI : pt_I ad) (sz : Nat) (M : pt_M) (Q : Int32 → pt_M → Prop) (hw : wpX7_open M Q) : Met l yX7_open (Cond.code yX7_open cX7_open 3 (some .int) :: lw_all) ({ frames := 3, cells := 0, slots := 0, locals := 71 } : Room) (va_Pc [.ref (ad 0)] (pt_P D cA ad sz M)) (va_Qi Q (pt_B D cA ad) (pt_fr ad sz)) 0 0 (pt_fr ad sz) := by
  refine Met.ofW (cc := cX7_open) (maxL := 3) (ret := (some .int)) (by decide) rfl ?_
  intro p e s m args below meth c s₁ B hml hv
  obtain ⟨rfl, hsz, hP, hK⟩ := hv
  have hx := B.exec
  have hb := B.bytes
  have hr := B.returns
  have hts0 := atoms_spec (ws := (Cond.code yX7_open cX7_open 3 (some .int) :: lw_all)) B.pre
  have hown : s.vm.findClass RX7 = some m.cls := findClass_of_methodNamed B.named
  have hlocks := B.notSynchronized
  subst hsz
  have F : pt_F p m c cX7_open 3 s _ RX7 D cA := ⟨⟨hx, hb, hml, hown, fun w h => hts0 w (List.mem_cons_of_mem _ h)⟩, hK⟩
  have hD : ∀ M, va_D (pt_fr ad s.heap.size) (pt_W cA ad M) := pt_D hI (fun k h => Or.inl ⟨k, h, rfl⟩)
  have hS : va_S (pt_fr ad s.heap.size) s.heap s.heap [] := va_S.rf
  have hl := lv_entry ([.ref (ad 0)]) (n := 3) (Nat.le_of_ble_eq_true rfl)
  rw [lg_entry_eq]
  generalize (lg_sl ([.ref (ad 0)]) ++ List.replicate (3 - (lg_sl ([.ref (ad 0)])).length) Slot.unset).toArray = ls at hl ⊢
  have hl : lv_has ls 3 [(0, .ref (ad 0))] := hl
  have L8 : ∀ (n8 : Nat) (x1 : Int32) (x2 : Int32) (M : pt_M) (H : Heap) (locs : List Loc) (ls : Array Slot), lpX7_open_8 Q n8 x1 x2 M → va_P D pt_cl (pt_W cA ad M) H → va_S (pt_fr ad s.heap.size) s.heap H locs → lv_has ls 3 [(0, .ref (ad 0)), (1, .int x1), (2, .int x2)] → W p l e (headSpec (Cond.code yX7_open cX7_open 3 (some .int) :: lw_all) ({ frames := 3, cells := 0, slots := 0, locals := 71 } : Room)).room s m ([.ref (ad 0)] : List Value).toArray below meth c H locs 0 0 (MQ below (va_Qi Q (pt_B D cA ad) (pt_fr ad s.heap.size)) ([.ref (ad 0)] : List Value).toArray s 0 0 (pt_fr ad s.heap.size)) (F0 m 8 ls []) := by
    intro n8
    induction n8 with
    | zero => intro x1 x2 M H locs ls hw; exact hw.elim
    | succ n8 ih8 =>
      have J32 : ∀ (x1 : Int32) (x2 : Int32) (M : pt_M) (H : Heap) (locs : List Loc) (ls : Array Slot), wjX7_open_32 Q (lpX7_open_8 Q n8) x1 x2 M → va_P D pt_cl (pt_W cA ad M) H → va_S (pt_fr ad s.heap.size) s.heap H locs → lv_has ls 3 [(0, .ref (ad 0)), (1, .int x1), (2, .int x2)] → W p l e (headSpec (Cond.code yX7_open cX7_open 3 (some .int) :: lw_all) ({ frames := 3, cells := 0, slots := 0, locals := 71 } : Room)).room s m ([.ref (ad 0)] : List Value).toArray below meth c H locs 0 0 (MQ below (va_Qi Q (pt_B D cA ad) (pt_fr ad s.heap.size)) ([.ref (ad 0)] : List Value).toArray s 0 0 (pt_fr ad s.heap.size)) (F0 m 32 ls []) := by
        intro x1 x2 M H locs ls hw hP hS hl
        unfold wjX7_open_32 at hw
        obtain ⟨x2_32, ex2_32⟩ : ∃ y : Int32, y = x2 + 1 := ⟨_, rfl⟩
        replace hw := hw x2_32 ex2_32
        refine lv_iinc (v := x2_32) (lv' := [(2, .int x2_32), (0, .ref (ad 0)), (1, .int x1)]) hx hb dX7_open_32 hl (k := 2) rfl (by rw [ex2_32]; rfl) (by decide) rfl (fun ls hl => ?_)
        refine lv_goto (tgt := 8) hx hb dX7_open_35 (by decide) ?_
        exact ih8 x1 x2_32 M _ _ _ hw hP hS (lv_sub hl [1, 2, 0] rfl)
      intro x1 x2 M H locs ls hw hP hS hl
      replace hw : lbX7_open_8 Q (lpX7_open_8 Q n8) x1 x2 M := hw
      unfold lbX7_open_8 at hw
      refine lv_iload_n hx hb dX7_open_8 rfl (lv_at hl 2 rfl) ?_
      refine lv_bipush (v := 10) hx hb dX7_open_9 (by decide) ?_
      refine lv_icmp_ge (tgt := 38) hx hb dX7_open_11 (by decide) (fun hc11 => ?_) (fun hc11 => ?_)
      · replace hw := hw.1 hc11
        refine lv_iload_n hx hb dX7_open_38 rfl (lv_at hl 1 rfl) ?_
        exact W.iret (v := x1) hx hb hr (fun t ht hW => ⟨⟨x1, M, rfl, hw, by unfold pt_B; rw [ht]; exact hP⟩, hS.F ht⟩) hS.2.2 dX7_open_39
      · replace hw := hw.2 hc11
        refine lv_aload_n hx hb dX7_open_14 rfl (lv_at hl 0 rfl) ?_
        refine pt_get F hP (pt_c7 _ pt_k0) (pt_l7 pt_k0) inX7 rfl 1 (by decide) kw_371 rfl rfl dX7_open_15 ?_
        refine lv_iload_n hx hb dX7_open_18 rfl (lv_at hl 2 rfl) ?_
        refine pt_calli (pt_runV (n := 1) (As := [.int x2]) (rest := []) F hP (pt_c3 _ pt_k125) (pt_l3 pt_k125) rfl (mtX3_openBy l D cA ad hI _ 125 pt_k125 x2 M _ hw) kw_764 kw_905 kw_57 kw_762 kw_763 ⟨by decide, by decide, by decide +kernel⟩ ⟨rfl, rfl, Nat.le_of_ble_eq_true rfl, Nat.le_of_ble_eq_true rfl⟩ rfl hl.1 rfl (Nat.le_of_ble_eq_true rfl) dX7_open_19 ⟨Nat.zero_le _, Nat.zero_le _⟩) hS (fun _ h => h) (fun r_19 M_19 H locs hw hP hS _ _ => ?_)
        refine lv_if_eq (tgt := 32) hx hb dX7_open_22 (by decide) (fun hc22 => ?_) (fun hc22 => ?_)
        · replace hw := hw.1 hc22
          exact J32 x1 x2 M_19 _ _ _ hw hP hS (lv_sub hl [0, 1, 2] rfl)
        · replace hw := hw.2 hc22
          refine lv_iload_n hx hb dX7_open_25 rfl (lv_at hl 1 rfl) ?_
          refine lv_iload_n hx hb dX7_open_26 rfl (lv_at hl 2 rfl) ?_
          refine pt_calli (pt_runS (n := 1) (As := [.int x2]) (rest := [.int x1]) F hP (mtX7_setOf l D cA ad hI _ x2 M_19 _ hw) kw_103 kw_715 kw_52 kw_102 ⟨by decide, by decide, by decide +kernel⟩ ⟨rfl, rfl, Nat.le_of_ble_eq_true rfl, Nat.le_of_ble_eq_true rfl⟩ rfl hl.1 rfl (Nat.le_of_ble_eq_true rfl) dX7_open_27 ⟨Nat.zero_le _, Nat.zero_le _⟩) hS (fun _ h => h) (fun r_27 M_27 H locs hw hP hS _ _ => ?_)
          refine lv_ior hx hb dX7_open_30 ?_
          refine lv_topi (fun x1_31 ex1_31 => ?_)
          replace hw := hw x1_31 ex1_31
          refine lv_istore_n (lv' := [(1, .int x1_31), (0, .ref (ad 0)), (2, .int x2)]) hx hb dX7_open_31 rfl hl (by decide) rfl (fun ls hl => ?_)
          exact J32 x1_31 x2 M_27 _ _ _ hw hP hS (lv_sub hl [1, 0, 2] rfl)
  unfold wpX7_open at hw
  refine lv_aload_n hx hb dX7_open_0 rfl (lv_at hl 0 rfl) ?_
  refine pt_callv (pt_runV (n := 0) (As := []) (rest := []) F hP (pt_c7 _ pt_k0) (pt_l7 pt_k0) rfl (mtX7_checkRunning l D cA ad hI _ M _ hw) kw_831 kw_828 kw_52 kw_830 kw_21 ⟨by decide, by decide, by decide +kernel⟩ ⟨rfl, rfl, Nat.le_of_ble_eq_true rfl, Nat.le_of_ble_eq_true rfl⟩ rfl hl.1 rfl (Nat.le_of_ble_eq_true rfl) dX7_open_1 ⟨Nat.zero_le _, Nat.zero_le _⟩) hS (fun _ h => h) (fun M_1 H locs hw hP hS _ _ => ?_)
  refine lv_iconst (v := 0) hx hb dX7_open_4 (by decide) ?_
  refine lv_istore_n (lv' := [(1, .int 0), (0, .ref (ad 0))]) hx hb dX7_open_5 rfl hl (by decide) rfl (fun ls hl => ?_)
  refine lv_iconst (v := 0) hx hb dX7_open_6 (by decide) ?_
  refine lv_istore_n (lv' := [(2, .int 0), (1, .int 0), (0, .ref (ad 0))]) hx hb dX7_open_7 rfl hl (by decide) rfl (fun ls hl => ?_)
  obtain ⟨n_, hw⟩ := hw
  exact L8 n_ 0 0 M_1 _ _ _ hw hP hS (lv_sub hl [2, 1, 0] rfl)
-- ===== X7_rowTo
def wpX7_rowTo (p1 : Int32) (p2 : Int32) (M : pt_M) (Q : Int32 → pt_M → Prop) : Prop :=
  wpX7_checkRunning M (fun (M_1 : pt_M) => wpX7_checkState p1 M_1 (fun (M_6 : pt_M) => wpX7_checkMost p2 M_6 (fun (M_10 : pt_M) => wpX2_search (125 + 1) p1 (-1) p2 M_10 (fun (r_27 : Int32) (M_27 : pt_M) => Q r_27 M_27))))
set_option maxHeartbeats 4000000 in
set_option maxRecDepth 100000 in
theorem mtX7_rowTo (l : Launch) (D : va_G) (cA : Nat → ClassId) (ad : Nat → Nat) (hI : pt_I ad) (sz : Nat) (p1 : Int32) (p2 : Int32) (M : pt_M) (Q : Int32 → pt_M → Prop) (hw : wpX7_rowTo p1 p2 M Q) : Met l yX7_rowTo (Cond.code yX7_rowTo cX7_rowTo 3 (some .int) :: lw_all) ({ frames := 7, cells := 0, slots := 0, locals := 167 } : Room) (va_Pc [.ref (ad 0), .int p1, .int p2] (pt_P D cA ad sz M)) (va_Qi Q (pt_B D cA ad) (pt_fr ad sz)) 0 0 (pt_fr ad sz) := by
  refine Met.ofW (cc := cX7_rowTo) (maxL := 3) (ret := (some .int)) (by decide) rfl ?_
  intro p e s m args below meth c s₁ B hml hv
  obtain ⟨rfl, hsz, hP, hK⟩ := hv
  have hx := B.exec
  have hb := B.bytes
  have hr := B.returns
  have hts0 := atoms_spec (ws := (Cond.code yX7_rowTo cX7_rowTo 3 (some .int) :: lw_all)) B.pre
  have hown : s.vm.findClass RX7 = some m.cls := findClass_of_methodNamed B.named
  have hlocks := B.notSynchronized
  subst hsz
  have F : pt_F p m c cX7_rowTo 3 s _ RX7 D cA := ⟨⟨hx, hb, hml, hown, fun w h => hts0 w (List.mem_cons_of_mem _ h)⟩, hK⟩
  have hD : ∀ M, va_D (pt_fr ad s.heap.size) (pt_W cA ad M) := pt_D hI (fun k h => Or.inl ⟨k, h, rfl⟩)
  have hS : va_S (pt_fr ad s.heap.size) s.heap s.heap [] := va_S.rf
  have hl := lv_entry ([.ref (ad 0), .int p1, .int p2]) (n := 3) (Nat.le_of_ble_eq_true rfl)
  rw [lg_entry_eq]
  generalize (lg_sl ([.ref (ad 0), .int p1, .int p2]) ++ List.replicate (3 - (lg_sl ([.ref (ad 0), .int p1, .int p2])).length) Slot.unset).toArray = ls at hl ⊢
  have hl : lv_has ls 3 [(0, .ref (ad 0)), (1, .int p1), (2, .int p2)] := hl
  unfold wpX7_rowTo at hw
  refine lv_aload_n hx hb dX7_rowTo_0 rfl (lv_at hl 0 rfl) ?_
  refine pt_callv (pt_runV (n := 0) (As := []) (rest := []) F hP (pt_c7 _ pt_k0) (pt_l7 pt_k0) rfl (mtX7_checkRunning l D cA ad hI _ M _ hw) kw_831 kw_828 kw_52 kw_830 kw_21 ⟨by decide, by decide, by decide +kernel⟩ ⟨rfl, rfl, Nat.le_of_ble_eq_true rfl, Nat.le_of_ble_eq_true rfl⟩ rfl hl.1 rfl (Nat.le_of_ble_eq_true rfl) dX7_rowTo_1 ⟨Nat.zero_le _, Nat.zero_le _⟩) hS (fun _ h => h) (fun M_1 H locs hw hP hS _ _ => ?_)
  refine lv_aload_n hx hb dX7_rowTo_4 rfl (lv_at hl 0 rfl) ?_
  refine lv_iload_n hx hb dX7_rowTo_5 rfl (lv_at hl 1 rfl) ?_
  refine pt_callv (pt_runV (n := 1) (As := [.int p1]) (rest := []) F hP (pt_c7 _ pt_k0) (pt_l7 pt_k0) rfl (mtX7_checkState l D cA ad hI _ p1 M_1 _ hw) kw_481 kw_478 kw_52 kw_480 kw_1 ⟨by decide, by decide, by decide +kernel⟩ ⟨rfl, rfl, Nat.le_of_ble_eq_true rfl, Nat.le_of_ble_eq_true rfl⟩ rfl hl.1 rfl (Nat.le_of_ble_eq_true rfl) dX7_rowTo_6 ⟨Nat.zero_le _, Nat.zero_le _⟩) hS (fun _ h => h) (fun M_6 H locs hw hP hS _ _ => ?_)
  refine lv_iload_n hx hb dX7_rowTo_9 rfl (lv_at hl 2 rfl) ?_
  refine pt_callv (pt_runS (n := 1) (As := [.int p2]) (rest := []) F hP (mtX7_checkMost l D cA ad hI _ p2 M_6 _ hw) kw_915 kw_913 kw_52 kw_914 ⟨by decide, by decide, by decide +kernel⟩ ⟨rfl, rfl, Nat.le_of_ble_eq_true rfl, Nat.le_of_ble_eq_true rfl⟩ rfl hl.1 rfl (Nat.le_of_ble_eq_true rfl) dX7_rowTo_10 ⟨Nat.zero_le _, Nat.zero_le _⟩) hS (fun _ h => h) (fun M_10 H locs hw hP hS _ _ => ?_)
  refine lv_aload_n hx hb dX7_rowTo_13 rfl (lv_at hl 0 rfl) ?_
  refine pt_get F hP (pt_c7 _ pt_k0) (pt_l7 pt_k0) inX7 rfl 3 (by decide) kw_373 rfl rfl dX7_rowTo_14 ?_
  refine lv_aload_n hx hb dX7_rowTo_17 rfl (lv_at hl 0 rfl) ?_
  refine pt_get F hP (pt_c7 _ pt_k0) (pt_l7 pt_k0) inX7 rfl 1 (by decide) kw_371 rfl rfl dX7_rowTo_18 ?_
  refine pt_get F hP (pt_c3 _ pt_k125) (pt_l3 pt_k125) inX3 rfl 1 (by decide) kw_292 rfl rfl dX7_rowTo_21 ?_
  refine lv_iload_n hx hb dX7_rowTo_24 rfl (lv_at hl 1 rfl) ?_
  refine lv_iconst (v := (-1)) hx hb dX7_rowTo_25 (by decide) ?_
  refine lv_iload_n hx hb dX7_rowTo_26 rfl (lv_at hl 2 rfl) ?_
  refine pt_calli (pt_runV (n := 4) (As := [.ref (ad (125 + 1)), .int p1, .int (-1), .int p2]) (rest := []) F hP (pt_c2 _ pt_k141) (pt_l2 pt_k141) rfl (mtX2_search l D cA ad hI _ (125 + 1) (pt_3s pt_k125) p1 (-1) p2 M_10 _ hw) kw_919 kw_916 kw_59 kw_917 kw_918 ⟨by decide, by decide, by decide +kernel⟩ ⟨rfl, rfl, Nat.le_of_ble_eq_true rfl, Nat.le_of_ble_eq_true rfl⟩ rfl hl.1 rfl (Nat.le_of_ble_eq_true rfl) dX7_rowTo_27 ⟨Nat.zero_le _, Nat.zero_le _⟩) hS (fun _ h => h) (fun r_27 M_27 H locs hw hP hS _ _ => ?_)
  exact W.iret (v := r_27) hx hb hr (fun t ht hW => ⟨⟨r_27, M_27, rfl, hw, by unfold pt_B; rw [ht]; exact hP⟩, hS.F ht⟩) hS.2.2 dX7_rowTo_30
-- ===== X7_rowFor
def wpX7_rowFor (p1 : Int32) (p2 : Int32) (M : pt_M) (Q : Int32 → pt_M → Prop) : Prop :=
  wpX7_checkRunning M (fun (M_1 : pt_M) => wpX7_checkTransition p1 M_1 (fun (M_6 : pt_M) => wpX7_checkMost p2 M_6 (fun (M_10 : pt_M) => wpX2_search (125 + 1) (-1) p1 p2 M_10 (fun (r_27 : Int32) (M_27 : pt_M) => Q r_27 M_27))))
set_option maxHeartbeats 4000000 in
set_option maxRecDepth 100000 in
theorem mtX7_rowFor (l : Launch) (D : va_G) (cA : Nat → ClassId) (ad : Nat → Nat) (hI : pt_I ad) (sz : Nat) (p1 : Int32) (p2 : Int32) (M : pt_M) (Q : Int32 → pt_M → Prop) (hw : wpX7_rowFor p1 p2 M Q) : Met l yX7_rowFor (Cond.code yX7_rowFor cX7_rowFor 3 (some .int) :: lw_all) ({ frames := 7, cells := 0, slots := 0, locals := 167 } : Room) (va_Pc [.ref (ad 0), .int p1, .int p2] (pt_P D cA ad sz M)) (va_Qi Q (pt_B D cA ad) (pt_fr ad sz)) 0 0 (pt_fr ad sz) := by
  refine Met.ofW (cc := cX7_rowFor) (maxL := 3) (ret := (some .int)) (by decide) rfl ?_
  intro p e s m args below meth c s₁ B hml hv
  obtain ⟨rfl, hsz, hP, hK⟩ := hv
  have hx := B.exec
  have hb := B.bytes
  have hr := B.returns
  have hts0 := atoms_spec (ws := (Cond.code yX7_rowFor cX7_rowFor 3 (some .int) :: lw_all)) B.pre
  have hown : s.vm.findClass RX7 = some m.cls := findClass_of_methodNamed B.named
  have hlocks := B.notSynchronized
  subst hsz
  have F : pt_F p m c cX7_rowFor 3 s _ RX7 D cA := ⟨⟨hx, hb, hml, hown, fun w h => hts0 w (List.mem_cons_of_mem _ h)⟩, hK⟩
  have hD : ∀ M, va_D (pt_fr ad s.heap.size) (pt_W cA ad M) := pt_D hI (fun k h => Or.inl ⟨k, h, rfl⟩)
  have hS : va_S (pt_fr ad s.heap.size) s.heap s.heap [] := va_S.rf
  have hl := lv_entry ([.ref (ad 0), .int p1, .int p2]) (n := 3) (Nat.le_of_ble_eq_true rfl)
  rw [lg_entry_eq]
  generalize (lg_sl ([.ref (ad 0), .int p1, .int p2]) ++ List.replicate (3 - (lg_sl ([.ref (ad 0), .int p1, .int p2])).length) Slot.unset).toArray = ls at hl ⊢
  have hl : lv_has ls 3 [(0, .ref (ad 0)), (1, .int p1), (2, .int p2)] := hl
  unfold wpX7_rowFor at hw
  refine lv_aload_n hx hb dX7_rowFor_0 rfl (lv_at hl 0 rfl) ?_
  refine pt_callv (pt_runV (n := 0) (As := []) (rest := []) F hP (pt_c7 _ pt_k0) (pt_l7 pt_k0) rfl (mtX7_checkRunning l D cA ad hI _ M _ hw) kw_831 kw_828 kw_52 kw_830 kw_21 ⟨by decide, by decide, by decide +kernel⟩ ⟨rfl, rfl, Nat.le_of_ble_eq_true rfl, Nat.le_of_ble_eq_true rfl⟩ rfl hl.1 rfl (Nat.le_of_ble_eq_true rfl) dX7_rowFor_1 ⟨Nat.zero_le _, Nat.zero_le _⟩) hS (fun _ h => h) (fun M_1 H locs hw hP hS _ _ => ?_)
  refine lv_aload_n hx hb dX7_rowFor_4 rfl (lv_at hl 0 rfl) ?_
  refine lv_iload_n hx hb dX7_rowFor_5 rfl (lv_at hl 1 rfl) ?_
  refine pt_callv (pt_runV (n := 1) (As := [.int p1]) (rest := []) F hP (pt_c7 _ pt_k0) (pt_l7 pt_k0) rfl (mtX7_checkTransition l D cA ad hI _ p1 M_1 _ hw) kw_583 kw_580 kw_52 kw_582 kw_3 ⟨by decide, by decide, by decide +kernel⟩ ⟨rfl, rfl, Nat.le_of_ble_eq_true rfl, Nat.le_of_ble_eq_true rfl⟩ rfl hl.1 rfl (Nat.le_of_ble_eq_true rfl) dX7_rowFor_6 ⟨Nat.zero_le _, Nat.zero_le _⟩) hS (fun _ h => h) (fun M_6 H locs hw hP hS _ _ => ?_)
  refine lv_iload_n hx hb dX7_rowFor_9 rfl (lv_at hl 2 rfl) ?_
  refine pt_callv (pt_runS (n := 1) (As := [.int p2]) (rest := []) F hP (mtX7_checkMost l D cA ad hI _ p2 M_6 _ hw) kw_915 kw_913 kw_52 kw_914 ⟨by decide, by decide, by decide +kernel⟩ ⟨rfl, rfl, Nat.le_of_ble_eq_true rfl, Nat.le_of_ble_eq_true rfl⟩ rfl hl.1 rfl (Nat.le_of_ble_eq_true rfl) dX7_rowFor_10 ⟨Nat.zero_le _, Nat.zero_le _⟩) hS (fun _ h => h) (fun M_10 H locs hw hP hS _ _ => ?_)
  refine lv_aload_n hx hb dX7_rowFor_13 rfl (lv_at hl 0 rfl) ?_
  refine pt_get F hP (pt_c7 _ pt_k0) (pt_l7 pt_k0) inX7 rfl 3 (by decide) kw_373 rfl rfl dX7_rowFor_14 ?_
  refine lv_aload_n hx hb dX7_rowFor_17 rfl (lv_at hl 0 rfl) ?_
  refine pt_get F hP (pt_c7 _ pt_k0) (pt_l7 pt_k0) inX7 rfl 1 (by decide) kw_371 rfl rfl dX7_rowFor_18 ?_
  refine pt_get F hP (pt_c3 _ pt_k125) (pt_l3 pt_k125) inX3 rfl 1 (by decide) kw_292 rfl rfl dX7_rowFor_21 ?_
  refine lv_iconst (v := (-1)) hx hb dX7_rowFor_24 (by decide) ?_
  refine lv_iload_n hx hb dX7_rowFor_25 rfl (lv_at hl 1 rfl) ?_
  refine lv_iload_n hx hb dX7_rowFor_26 rfl (lv_at hl 2 rfl) ?_
  refine pt_calli (pt_runV (n := 4) (As := [.ref (ad (125 + 1)), .int (-1), .int p1, .int p2]) (rest := []) F hP (pt_c2 _ pt_k141) (pt_l2 pt_k141) rfl (mtX2_search l D cA ad hI _ (125 + 1) (pt_3s pt_k125) (-1) p1 p2 M_10 _ hw) kw_919 kw_916 kw_59 kw_917 kw_918 ⟨by decide, by decide, by decide +kernel⟩ ⟨rfl, rfl, Nat.le_of_ble_eq_true rfl, Nat.le_of_ble_eq_true rfl⟩ rfl hl.1 rfl (Nat.le_of_ble_eq_true rfl) dX7_rowFor_27 ⟨Nat.zero_le _, Nat.zero_le _⟩) hS (fun _ h => h) (fun r_27 M_27 H locs hw hP hS _ _ => ?_)
  exact W.iret (v := r_27) hx hb hr (fun t ht hW => ⟨⟨r_27, M_27, rfl, hw, by unfold pt_B; rw [ht]; exact hP⟩, hS.F ht⟩) hS.2.2 dX7_rowFor_30
-- ===== X7_rowAt
def wjX7_rowAt_30 (p1 : Int32) (Q : Int32 → pt_M → Prop)  (xs0 : Int32) (M : pt_M) : Prop :=
  Q xs0 M
def wpX7_rowAt (p1 : Int32) (M : pt_M) (Q : Int32 → pt_M → Prop) : Prop :=
  wpX7_isWithin p1 0 ((M 141 1) - 1) M (fun (r_11 : Int32) (M_11 : pt_M) => (r_11 = 0 → wjX7_rowAt_30 p1 Q (-1) M_11) ∧ (¬ r_11 = 0 → vp_in p1 8 ∧ (wjX7_rowAt_30 p1 Q (M_11 142 (Int32.toNatClampNeg p1)) M_11)))
set_option maxHeartbeats 4000000 in
set_option maxRecDepth 100000 in
theorem mtX7_rowAt (l : Launch) (D : va_G) (cA : Nat → ClassId) (ad : Nat → Nat) (hI : pt_I ad) (sz : Nat) (p1 : Int32) (M : pt_M) (Q : Int32 → pt_M → Prop) (hw : wpX7_rowAt p1 M Q) : Met l yX7_rowAt (Cond.code yX7_rowAt cX7_rowAt 2 (some .int) :: lw_all) ({ frames := 1, cells := 0, slots := 0, locals := 22 } : Room) (va_Pc [.ref (ad 0), .int p1] (pt_P D cA ad sz M)) (va_Qi Q (pt_B D cA ad) (pt_fr ad sz)) 0 0 (pt_fr ad sz) := by
  refine Met.ofW (cc := cX7_rowAt) (maxL := 2) (ret := (some .int)) (by decide) rfl ?_
  intro p e s m args below meth c s₁ B hml hv
  obtain ⟨rfl, hsz, hP, hK⟩ := hv
  have hx := B.exec
  have hb := B.bytes
  have hr := B.returns
  have hts0 := atoms_spec (ws := (Cond.code yX7_rowAt cX7_rowAt 2 (some .int) :: lw_all)) B.pre
  have hown : s.vm.findClass RX7 = some m.cls := findClass_of_methodNamed B.named
  have hlocks := B.notSynchronized
  subst hsz
  have F : pt_F p m c cX7_rowAt 2 s _ RX7 D cA := ⟨⟨hx, hb, hml, hown, fun w h => hts0 w (List.mem_cons_of_mem _ h)⟩, hK⟩
  have hD : ∀ M, va_D (pt_fr ad s.heap.size) (pt_W cA ad M) := pt_D hI (fun k h => Or.inl ⟨k, h, rfl⟩)
  have hS : va_S (pt_fr ad s.heap.size) s.heap s.heap [] := va_S.rf
  have hl := lv_entry ([.ref (ad 0), .int p1]) (n := 2) (Nat.le_of_ble_eq_true rfl)
  rw [lg_entry_eq]
  generalize (lg_sl ([.ref (ad 0), .int p1]) ++ List.replicate (2 - (lg_sl ([.ref (ad 0), .int p1])).length) Slot.unset).toArray = ls at hl ⊢
  have hl : lv_has ls 2 [(0, .ref (ad 0)), (1, .int p1)] := hl
  have J30 : ∀ (xs0 : Int32) (M : pt_M) (H : Heap) (locs : List Loc) (ls : Array Slot), wjX7_rowAt_30 p1 Q xs0 M → va_P D pt_cl (pt_W cA ad M) H → va_S (pt_fr ad s.heap.size) s.heap H locs → lv_has ls 2 [] → W p l e (headSpec (Cond.code yX7_rowAt cX7_rowAt 2 (some .int) :: lw_all) ({ frames := 1, cells := 0, slots := 0, locals := 22 } : Room)).room s m ([.ref (ad 0), .int p1] : List Value).toArray below meth c H locs 0 0 (MQ below (va_Qi Q (pt_B D cA ad) (pt_fr ad s.heap.size)) ([.ref (ad 0), .int p1] : List Value).toArray s 0 0 (pt_fr ad s.heap.size)) (F0 m 30 ls [.int xs0]) := by
    intro xs0 M H locs ls hw hP hS hl
    unfold wjX7_rowAt_30 at hw
    exact W.iret (v := xs0) hx hb hr (fun t ht hW => ⟨⟨xs0, M, rfl, hw, by unfold pt_B; rw [ht]; exact hP⟩, hS.F ht⟩) hS.2.2 dX7_rowAt_30
  unfold wpX7_rowAt at hw
  refine lv_iload_n hx hb dX7_rowAt_0 rfl (lv_at hl 1 rfl) ?_
  refine lv_iconst (v := 0) hx hb dX7_rowAt_1 (by decide) ?_
  refine lv_aload_n hx hb dX7_rowAt_2 rfl (lv_at hl 0 rfl) ?_
  refine pt_get F hP (pt_c7 _ pt_k0) (pt_l7 pt_k0) inX7 rfl 3 (by decide) kw_373 rfl rfl dX7_rowAt_3 ?_
  refine pt_get F hP (pt_c2 _ pt_k141) (pt_l2 pt_k141) inX2 rfl 1 (by decide) kw_342 rfl rfl dX7_rowAt_6 ?_
  refine lv_iconst (v := 1) hx hb dX7_rowAt_9 (by decide) ?_
  refine lv_isub hx hb dX7_rowAt_10 ?_
  refine pt_calli (pt_runS (n := 3) (As := [.int p1, .int 0, .int ((M 141 1) - 1)]) (rest := []) F hP (mtX7_isWithin l D cA ad hI _ p1 0 ((M 141 1) - 1) M _ hw) kw_432 kw_430 kw_52 kw_431 ⟨by decide, by decide, by decide +kernel⟩ ⟨rfl, rfl, Nat.le_of_ble_eq_true rfl, Nat.le_of_ble_eq_true rfl⟩ rfl hl.1 rfl (Nat.le_of_ble_eq_true rfl) dX7_rowAt_11 ⟨Nat.zero_le _, Nat.zero_le _⟩) hS (fun _ h => h) (fun r_11 M_11 H locs hw hP hS _ _ => ?_)
  refine lv_if_eq (tgt := 29) hx hb dX7_rowAt_14 (by decide) (fun hc14 => ?_) (fun hc14 => ?_)
  · replace hw := hw.1 hc14
    refine lv_iconst (v := (-1)) hx hb dX7_rowAt_29 (by decide) ?_
    exact J30 (-1) M_11 _ _ _ hw hP hS (lv_sub hl [] rfl)
  · replace hw := hw.2 hc14
    refine lv_aload_n hx hb dX7_rowAt_17 rfl (lv_at hl 0 rfl) ?_
    refine pt_get F hP (pt_c7 _ pt_k0) (pt_l7 pt_k0) inX7 rfl 3 (by decide) kw_373 rfl rfl dX7_rowAt_18 ?_
    refine pt_get F hP (pt_c2 _ pt_k141) (pt_l2 pt_k141) inX2 rfl 0 (by decide) kw_340 rfl rfl dX7_rowAt_21 ?_
    refine lv_iload_n hx hb dX7_rowAt_24 rfl (lv_at hl 1 rfl) ?_
    have hv25 := hw.1
    replace hw := hw.2
    refine pt_iald F hP pt_a142 hv25 dX7_rowAt_25 ?_
    refine lv_goto (tgt := 30) hx hb dX7_rowAt_26 (by decide) ?_
    exact J30 (M_11 142 (Int32.toNatClampNeg p1)) M_11 _ _ _ hw hP hS (lv_sub hl [] rfl)
-- ===== X7_looked
def wpX7_looked  (M : pt_M) (Q : Int32 → pt_M → Prop) : Prop :=
  Q (M 141 2) M
set_option maxHeartbeats 4000000 in
set_option maxRecDepth 100000 in
theorem mtX7_looked (l : Launch) (D : va_G) (cA : Nat → ClassId) (ad : Nat → Nat) (hI : pt_I ad) (sz : Nat) (M : pt_M) (Q : Int32 → pt_M → Prop) (hw : wpX7_looked M Q) : Met l yX7_looked (Cond.code yX7_looked cX7_looked 1 (some .int) :: lw_all) ({ frames := 0, cells := 0, slots := 0, locals := 0 } : Room) (va_Pc [.ref (ad 0)] (pt_P D cA ad sz M)) (va_Qi Q (pt_B D cA ad) (pt_fr ad sz)) 0 0 (pt_fr ad sz) := by
  refine Met.ofW (cc := cX7_looked) (maxL := 1) (ret := (some .int)) (by decide) rfl ?_
  intro p e s m args below meth c s₁ B hml hv
  obtain ⟨rfl, hsz, hP, hK⟩ := hv
  have hx := B.exec
  have hb := B.bytes
  have hr := B.returns
  have hts0 := atoms_spec (ws := (Cond.code yX7_looked cX7_looked 1 (some .int) :: lw_all)) B.pre
  have hown : s.vm.findClass RX7 = some m.cls := findClass_of_methodNamed B.named
  have hlocks := B.notSynchronized
  subst hsz
  have F : pt_F p m c cX7_looked 1 s _ RX7 D cA := ⟨⟨hx, hb, hml, hown, fun w h => hts0 w (List.mem_cons_of_mem _ h)⟩, hK⟩
  have hD : ∀ M, va_D (pt_fr ad s.heap.size) (pt_W cA ad M) := pt_D hI (fun k h => Or.inl ⟨k, h, rfl⟩)
  have hS : va_S (pt_fr ad s.heap.size) s.heap s.heap [] := va_S.rf
  have hl := lv_entry ([.ref (ad 0)]) (n := 1) (Nat.le_of_ble_eq_true rfl)
  rw [lg_entry_eq]
  generalize (lg_sl ([.ref (ad 0)]) ++ List.replicate (1 - (lg_sl ([.ref (ad 0)])).length) Slot.unset).toArray = ls at hl ⊢
  have hl : lv_has ls 1 [(0, .ref (ad 0))] := hl
  unfold wpX7_looked at hw
  refine lv_aload_n hx hb dX7_looked_0 rfl (lv_at hl 0 rfl) ?_
  refine pt_get F hP (pt_c7 _ pt_k0) (pt_l7 pt_k0) inX7 rfl 3 (by decide) kw_373 rfl rfl dX7_looked_1 ?_
  refine pt_get F hP (pt_c2 _ pt_k141) (pt_l2 pt_k141) inX2 rfl 2 (by decide) kw_344 rfl rfl dX7_looked_4 ?_
  exact W.iret (v := (M 141 2)) hx hb hr (fun t ht hW => ⟨⟨(M 141 2), M, rfl, hw, by unfold pt_B; rw [ht]; exact hP⟩, hS.F ht⟩) hS.2.2 dX7_looked_7
-- ===== X7_meanAge
def wjX7_meanAge_67  (Q : UInt64 → pt_M → Prop) (R24 : Int32 → Int32 → Int32 → pt_M → Prop) (x1 : Int32) (x2 : Int32) (x3 : Int32) (M : pt_M) : Prop :=
  ∀ x3_67 : Int32, x3_67 = x3 + 1 → R24 x1 x2 x3_67 M
def lbX7_meanAge_24  (Q : UInt64 → pt_M → Prop)  (R24 : Int32 → Int32 → Int32 → pt_M → Prop) (x1 : Int32) (x2 : Int32) (x3 : Int32) (M : pt_M) : Prop :=
  ((M 1 3) ≤ x3 → vf_n64 (FP.ddiv (FP.i2d x2) (FP.i2d x1)) ∧ (Q (FP.ddiv (FP.i2d x2) (FP.i2d x1)) M)) ∧ (¬ (M 1 3) ≤ x3 → wpX7_has (M (125 + 1) 3) x3 M (fun (r_46 : Int32) (M_46 : pt_M) => (r_46 = 0 → wjX7_meanAge_67 Q R24 x1 x2 x3 M_46) ∧ (¬ r_46 = 0 → vp_in x3 20 ∧ (∀ x2_66 : Int32, x2_66 = (x2 + (M_46 ((125 + 1) + 1) (Int32.toNatClampNeg x3))) → wjX7_meanAge_67 Q R24 x1 x2_66 x3 M_46))))
def lpX7_meanAge_24  (Q : UInt64 → pt_M → Prop)  : Nat → Int32 → Int32 → Int32 → pt_M → Prop
  | 0 => fun _ _ _ _ => False
  | n + 1 => fun x1 x2 x3 M => lbX7_meanAge_24 Q (lpX7_meanAge_24 Q n) x1 x2 x3 M
def wpX7_meanAge  (M : pt_M) (Q : UInt64 → pt_M → Prop) : Prop :=
  wpJ6_bitCount_0f7a4 (M (125 + 1) 3) M (fun (r_10 : Int32) (M_10 : pt_M) => (¬ r_10 = 0 → ∃ n : Nat, lpX7_meanAge_24 Q n r_10 0 0 M_10) ∧ (r_10 = 0 → Q 0 M_10))
set_option maxHeartbeats 4000000 in
set_option maxRecDepth 100000 in
theorem mtX7_meanAge (l : Launch) (D : va_G) (cA : Nat → ClassId) (ad : Nat → Nat) (hI : pt_I ad) (sz : Nat) (M : pt_M) (Q : UInt64 → pt_M → Prop) (hw : wpX7_meanAge M Q) : Met l yX7_meanAge (Cond.code yX7_meanAge cX7_meanAge 4 (some .double) :: lw_all) ({ frames := 1, cells := 0, slots := 0, locals := 21 } : Room) (va_Pc [.ref (ad 0)] (pt_P D cA ad sz M)) (va_Qd Q (pt_B D cA ad) (pt_fr ad sz)) 0 0 (pt_fr ad sz) := by
  refine Met.ofW (cc := cX7_meanAge) (maxL := 4) (ret := (some .double)) (by decide) rfl ?_
  intro p e s m args below meth c s₁ B hml hv
  obtain ⟨rfl, hsz, hP, hK⟩ := hv
  have hx := B.exec
  have hb := B.bytes
  have hr := B.returns
  have hts0 := atoms_spec (ws := (Cond.code yX7_meanAge cX7_meanAge 4 (some .double) :: lw_all)) B.pre
  have hown : s.vm.findClass RX7 = some m.cls := findClass_of_methodNamed B.named
  have hlocks := B.notSynchronized
  subst hsz
  have F : pt_F p m c cX7_meanAge 4 s _ RX7 D cA := ⟨⟨hx, hb, hml, hown, fun w h => hts0 w (List.mem_cons_of_mem _ h)⟩, hK⟩
  have hD : ∀ M, va_D (pt_fr ad s.heap.size) (pt_W cA ad M) := pt_D hI (fun k h => Or.inl ⟨k, h, rfl⟩)
  have hS : va_S (pt_fr ad s.heap.size) s.heap s.heap [] := va_S.rf
  have hl := lv_entry ([.ref (ad 0)]) (n := 4) (Nat.le_of_ble_eq_true rfl)
  rw [lg_entry_eq]
  generalize (lg_sl ([.ref (ad 0)]) ++ List.replicate (4 - (lg_sl ([.ref (ad 0)])).length) Slot.unset).toArray = ls at hl ⊢
  have hl : lv_has ls 4 [(0, .ref (ad 0))] := hl
  have L24 : ∀ (n24 : Nat) (x1 : Int32) (x2 : Int32) (x3 : Int32) (M : pt_M) (H : Heap) (locs : List Loc) (ls : Array Slot), lpX7_meanAge_24 Q n24 x1 x2 x3 M → va_P D pt_cl (pt_W cA ad M) H → va_S (pt_fr ad s.heap.size) s.heap H locs → lv_has ls 4 [(0, .ref (ad 0)), (1, .int x1), (2, .int x2), (3, .int x3)] → W p l e (headSpec (Cond.code yX7_meanAge cX7_meanAge 4 (some .double) :: lw_all) ({ frames := 1, cells := 0, slots := 0, locals := 21 } : Room)).room s m ([.ref (ad 0)] : List Value).toArray below meth c H locs 0 0 (MQ below (va_Qd Q (pt_B D cA ad) (pt_fr ad s.heap.size)) ([.ref (ad 0)] : List Value).toArray s 0 0 (pt_fr ad s.heap.size)) (F0 m 24 ls []) := by
    intro n24
    induction n24 with
    | zero => intro x1 x2 x3 M H locs ls hw; exact hw.elim
    | succ n24 ih24 =>
      have J67 : ∀ (x1 : Int32) (x2 : Int32) (x3 : Int32) (M : pt_M) (H : Heap) (locs : List Loc) (ls : Array Slot), wjX7_meanAge_67 Q (lpX7_meanAge_24 Q n24) x1 x2 x3 M → va_P D pt_cl (pt_W cA ad M) H → va_S (pt_fr ad s.heap.size) s.heap H locs → lv_has ls 4 [(0, .ref (ad 0)), (1, .int x1), (2, .int x2), (3, .int x3)] → W p l e (headSpec (Cond.code yX7_meanAge cX7_meanAge 4 (some .double) :: lw_all) ({ frames := 1, cells := 0, slots := 0, locals := 21 } : Room)).room s m ([.ref (ad 0)] : List Value).toArray below meth c H locs 0 0 (MQ below (va_Qd Q (pt_B D cA ad) (pt_fr ad s.heap.size)) ([.ref (ad 0)] : List Value).toArray s 0 0 (pt_fr ad s.heap.size)) (F0 m 67 ls []) := by
        intro x1 x2 x3 M H locs ls hw hP hS hl
        unfold wjX7_meanAge_67 at hw
        obtain ⟨x3_67, ex3_67⟩ : ∃ y : Int32, y = x3 + 1 := ⟨_, rfl⟩
        replace hw := hw x3_67 ex3_67
        refine lv_iinc (v := x3_67) (lv' := [(3, .int x3_67), (0, .ref (ad 0)), (1, .int x1), (2, .int x2)]) hx hb dX7_meanAge_67 hl (k := 3) rfl (by rw [ex3_67]; rfl) (by decide) rfl (fun ls hl => ?_)
        refine lv_goto (tgt := 24) hx hb dX7_meanAge_70 (by decide) ?_
        exact ih24 x1 x2 x3_67 M _ _ _ hw hP hS (lv_sub hl [1, 2, 3, 0] rfl)
      intro x1 x2 x3 M H locs ls hw hP hS hl
      replace hw : lbX7_meanAge_24 Q (lpX7_meanAge_24 Q n24) x1 x2 x3 M := hw
      unfold lbX7_meanAge_24 at hw
      refine lv_iload_n hx hb dX7_meanAge_24 rfl (lv_at hl 3 rfl) ?_
      refine lv_aload_n hx hb dX7_meanAge_25 rfl (lv_at hl 0 rfl) ?_
      refine pt_get F hP (pt_c7 _ pt_k0) (pt_l7 pt_k0) inX7 rfl 0 (by decide) kw_370 rfl rfl dX7_meanAge_26 ?_
      refine pt_get F hP (pt_c1 _ pt_k1) (pt_l1 pt_k1) inX1 rfl 3 (by decide) kw_231 rfl rfl dX7_meanAge_29 ?_
      refine lv_icmp_ge (tgt := 73) hx hb dX7_meanAge_32 (by decide) (fun hc32 => ?_) (fun hc32 => ?_)
      · replace hw := hw.1 hc32
        refine lv_iload_n hx hb dX7_meanAge_73 rfl (lv_at hl 2 rfl) ?_
        refine lv_i2d hx hb dX7_meanAge_74 ?_
        refine lv_iload_n hx hb dX7_meanAge_75 rfl (lv_at hl 1 rfl) ?_
        refine lv_i2d hx hb dX7_meanAge_76 ?_
        have hz77 := hw.1
        replace hw := hw.2
        refine lv_ddiv hx hb dX7_meanAge_77 hz77 ?_
        exact W.dret (v := (FP.ddiv (FP.i2d x2) (FP.i2d x1))) hx hb hr (fun t ht hW => ⟨⟨(FP.ddiv (FP.i2d x2) (FP.i2d x1)), M, rfl, hw, by unfold pt_B; rw [ht]; exact hP⟩, hS.F ht⟩) hS.2.2 dX7_meanAge_78
      · replace hw := hw.2 hc32
        refine lv_aload_n hx hb dX7_meanAge_35 rfl (lv_at hl 0 rfl) ?_
        refine pt_get F hP (pt_c7 _ pt_k0) (pt_l7 pt_k0) inX7 rfl 1 (by decide) kw_371 rfl rfl dX7_meanAge_36 ?_
        refine pt_get F hP (pt_c3 _ pt_k125) (pt_l3 pt_k125) inX3 rfl 1 (by decide) kw_292 rfl rfl dX7_meanAge_39 ?_
        refine pt_get F hP (pt_c4 _ (pt_3s pt_k125)) (pt_l4 (pt_3s pt_k125)) inX4 rfl 3 (by decide) kw_279 rfl rfl dX7_meanAge_42 ?_
        refine lv_iload_n hx hb dX7_meanAge_45 rfl (lv_at hl 3 rfl) ?_
        refine pt_calli (pt_runS (n := 2) (As := [.int (M (125 + 1) 3), .int x3]) (rest := []) F hP (mtX7_has l D cA ad hI _ (M (125 + 1) 3) x3 M _ hw) kw_449 kw_447 kw_52 kw_448 ⟨by decide, by decide, by decide +kernel⟩ ⟨rfl, rfl, Nat.le_of_ble_eq_true rfl, Nat.le_of_ble_eq_true rfl⟩ rfl hl.1 rfl (Nat.le_of_ble_eq_true rfl) dX7_meanAge_46 ⟨Nat.zero_le _, Nat.zero_le _⟩) hS (fun _ h => h) (fun r_46 M_46 H locs hw hP hS _ _ => ?_)
        refine lv_if_eq (tgt := 67) hx hb dX7_meanAge_49 (by decide) (fun hc49 => ?_) (fun hc49 => ?_)
        · replace hw := hw.1 hc49
          exact J67 x1 x2 x3 M_46 _ _ _ hw hP hS (lv_sub hl [0, 1, 2, 3] rfl)
        · replace hw := hw.2 hc49
          refine lv_iload_n hx hb dX7_meanAge_52 rfl (lv_at hl 2 rfl) ?_
          refine lv_aload_n hx hb dX7_meanAge_53 rfl (lv_at hl 0 rfl) ?_
          refine pt_get F hP (pt_c7 _ pt_k0) (pt_l7 pt_k0) inX7 rfl 1 (by decide) kw_371 rfl rfl dX7_meanAge_54 ?_
          refine pt_get F hP (pt_c3 _ pt_k125) (pt_l3 pt_k125) inX3 rfl 1 (by decide) kw_292 rfl rfl dX7_meanAge_57 ?_
          refine pt_get F hP (pt_c4 _ (pt_3s pt_k125)) (pt_l4 (pt_3s pt_k125)) inX4 rfl 0 (by decide) kw_269 rfl rfl dX7_meanAge_60 ?_
          refine lv_iload_n hx hb dX7_meanAge_63 rfl (lv_at hl 3 rfl) ?_
          have hv64 := hw.1
          replace hw := hw.2
          refine pt_iald F hP (pt_4a (pt_3s pt_k125)) hv64 dX7_meanAge_64 ?_
          refine lv_iadd hx hb dX7_meanAge_65 ?_
          refine lv_topi (fun x2_66 ex2_66 => ?_)
          replace hw := hw x2_66 ex2_66
          refine lv_istore_n (lv' := [(2, .int x2_66), (0, .ref (ad 0)), (1, .int x1), (3, .int x3)]) hx hb dX7_meanAge_66 rfl hl (by decide) rfl (fun ls hl => ?_)
          exact J67 x1 x2_66 x3 M_46 _ _ _ hw hP hS (lv_sub hl [1, 2, 0, 3] rfl)
  unfold wpX7_meanAge at hw
  refine lv_aload_n hx hb dX7_meanAge_0 rfl (lv_at hl 0 rfl) ?_
  refine pt_get F hP (pt_c7 _ pt_k0) (pt_l7 pt_k0) inX7 rfl 1 (by decide) kw_371 rfl rfl dX7_meanAge_1 ?_
  refine pt_get F hP (pt_c3 _ pt_k125) (pt_l3 pt_k125) inX3 rfl 1 (by decide) kw_292 rfl rfl dX7_meanAge_4 ?_
  refine pt_get F hP (pt_c4 _ (pt_3s pt_k125)) (pt_l4 (pt_3s pt_k125)) inX4 rfl 3 (by decide) kw_279 rfl rfl dX7_meanAge_7 ?_
  refine pt_calli (pt_runS (n := 1) (As := [.int (M (125 + 1) 3)]) (rest := []) F hP (mtJ6_bitCount_0f7a4 l D cA ad hI _ (M (125 + 1) 3) M _ hw) kw_443 kw_441 kw_80 kw_442 ⟨by decide, by decide, by decide +kernel⟩ ⟨rfl, rfl, Nat.le_of_ble_eq_true rfl, Nat.le_of_ble_eq_true rfl⟩ rfl hl.1 rfl (Nat.le_of_ble_eq_true rfl) dX7_meanAge_10 ⟨Nat.zero_le _, Nat.zero_le _⟩) hS (fun _ h => h) (fun r_10 M_10 H locs hw hP hS _ _ => ?_)
  refine lv_istore_n (lv' := [(1, .int r_10), (0, .ref (ad 0))]) hx hb dX7_meanAge_13 rfl hl (by decide) rfl (fun ls hl => ?_)
  refine lv_iload_n hx hb dX7_meanAge_14 rfl (lv_at hl 0 rfl) ?_
  refine lv_if_ne (tgt := 20) hx hb dX7_meanAge_15 (by decide) (fun hc15 => ?_) (fun hc15 => ?_)
  · replace hw := hw.1 hc15
    refine lv_iconst (v := 0) hx hb dX7_meanAge_20 (by decide) ?_
    refine lv_istore_n (lv' := [(2, .int 0), (1, .int r_10), (0, .ref (ad 0))]) hx hb dX7_meanAge_21 rfl hl (by decide) rfl (fun ls hl => ?_)
    refine lv_iconst (v := 0) hx hb dX7_meanAge_22 (by decide) ?_
    refine lv_istore_n (lv' := [(3, .int 0), (2, .int 0), (1, .int r_10), (0, .ref (ad 0))]) hx hb dX7_meanAge_23 rfl hl (by decide) rfl (fun ls hl => ?_)
    obtain ⟨n_, hw⟩ := hw
    exact L24 n_ r_10 0 0 M_10 _ _ _ hw hP hS (lv_sub hl [3, 2, 1, 0] rfl)
  · replace hw := hw.2 hc15
    refine lv_dconst0 hx hb dX7_meanAge_18 ?_
    exact W.dret (v := 0) hx hb hr (fun t ht hW => ⟨⟨0, M_10, rfl, hw, by unfold pt_B; rw [ht]; exact hP⟩, hS.F ht⟩) hS.2.2 dX7_meanAge_19
