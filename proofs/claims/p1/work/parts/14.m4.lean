-- ===== X3_isOpen
def wjX3_isOpen_88 (k0 : Nat) (k1 : Nat) (p2 : Int32) (Q : Int32 → pt_M → Prop)  (xs0 : Int32) (M : pt_M) : Prop :=
  pt_zb xs0 ∧ Q xs0 M
def wjX3_isOpen_31 (k0 : Nat) (k1 : Nat) (p2 : Int32) (Q : Int32 → pt_M → Prop)   (M : pt_M) : Prop :=
  Q 0 M
def wpX3_isOpen (k0 : Nat) (k1 : Nat) (p2 : Int32) (M : pt_M) (Q : Int32 → pt_M → Prop) : Prop :=
  wpX7_has (M (k0 + 1) 3) (M k1 1) M (fun (r_11 : Int32) (M_11 : pt_M) => (r_11 = 0 → wjX3_isOpen_31 k0 k1 p2 Q M_11) ∧ (¬ r_11 = 0 → wpX6_isAllowed k1 ((k0 + 1) + 3) M_11 (fun (r_25 : Int32) (M_25 : pt_M) => (¬ r_25 = 0 → ((M_25 k1 2) = 1 → vp_in (M_25 k1 1) 20 ∧ ((¬ (M_25 ((k0 + 1) + 1) (Int32.toNatClampNeg (M_25 k1 1))) = (M_25 k1 3) → wjX3_isOpen_88 k0 k1 p2 Q 0 M_25) ∧ ((M_25 ((k0 + 1) + 1) (Int32.toNatClampNeg (M_25 k1 1))) = (M_25 k1 3) → wjX3_isOpen_88 k0 k1 p2 Q 1 M_25))) ∧ (¬ (M_25 k1 2) = 1 → ((M_25 k1 2) = 2 → wpX7_has p2 (M_25 k1 1) M_25 (fun (r_94 : Int32) (M_94 : pt_M) => pt_zb r_94 ∧ Q r_94 M_94)) ∧ (¬ (M_25 k1 2) = 2 → Q 1 M_25))) ∧ (r_25 = 0 → wjX3_isOpen_31 k0 k1 p2 Q M_25))))
set_option maxHeartbeats 4000000 in
set_option maxRecDepth 100000 in
theorem mtX3_isOpen (l : Launch) (D : va_G) (cA : Nat → ClassId) (ad : Nat → Nat) (hI : pt_I ad) (sz : Nat) (k0 : Nat) (hk0 : pt_kd k0 = 3) (k1 : Nat) (hk1 : pt_kd k1 = 6) (p2 : Int32) (M : pt_M) (Q : Int32 → pt_M → Prop) (hw : wpX3_isOpen k0 k1 p2 M Q) : Met l yX3_isOpen (Cond.code yX3_isOpen cX3_isOpen 3 (some .boolean) :: lw_all) ({ frames := 1, cells := 0, slots := 0, locals := 21 } : Room) (va_Pc [.ref (ad k0), .ref (ad k1), .int p2] (pt_P D cA ad sz M)) (va_Qi Q (pt_B D cA ad) (pt_fr ad sz)) 0 0 (pt_fr ad sz) := by
  refine Met.ofW (cc := cX3_isOpen) (maxL := 3) (ret := (some .boolean)) (by decide) rfl ?_
  intro p e s m args below meth c s₁ B hml hv
  obtain ⟨rfl, hsz, hP, hK⟩ := hv
  have hx := B.exec
  have hb := B.bytes
  have hr := B.returns
  have hts0 := atoms_spec (ws := (Cond.code yX3_isOpen cX3_isOpen 3 (some .boolean) :: lw_all)) B.pre
  have hown : s.vm.findClass RX3 = some m.cls := findClass_of_methodNamed B.named
  have hlocks := B.notSynchronized
  subst hsz
  have F : pt_F p m c cX3_isOpen 3 s _ RX3 D cA := ⟨⟨hx, hb, hml, hown, fun w h => hts0 w (List.mem_cons_of_mem _ h)⟩, hK⟩
  have hD : ∀ M, va_D (pt_fr ad s.heap.size) (pt_W cA ad M) := pt_D hI (fun k h => Or.inl ⟨k, h, rfl⟩)
  have hS : va_S (pt_fr ad s.heap.size) s.heap s.heap [] := va_S.rf
  have hl := lv_entry ([.ref (ad k0), .ref (ad k1), .int p2]) (n := 3) (Nat.le_of_ble_eq_true rfl)
  rw [lg_entry_eq]
  generalize (lg_sl ([.ref (ad k0), .ref (ad k1), .int p2]) ++ List.replicate (3 - (lg_sl ([.ref (ad k0), .ref (ad k1), .int p2])).length) Slot.unset).toArray = ls at hl ⊢
  have hl : lv_has ls 3 [(0, .ref (ad k0)), (1, .ref (ad k1)), (2, .int p2)] := hl
  have J88 : ∀ (xs0 : Int32) (M : pt_M) (H : Heap) (locs : List Loc) (ls : Array Slot), wjX3_isOpen_88 k0 k1 p2 Q xs0 M → va_P D pt_cl (pt_W cA ad M) H → va_S (pt_fr ad s.heap.size) s.heap H locs → lv_has ls 3 [] → W p l e (headSpec (Cond.code yX3_isOpen cX3_isOpen 3 (some .boolean) :: lw_all) ({ frames := 1, cells := 0, slots := 0, locals := 21 } : Room)).room s m ([.ref (ad k0), .ref (ad k1), .int p2] : List Value).toArray below meth c H locs 0 0 (MQ below (va_Qi Q (pt_B D cA ad) (pt_fr ad s.heap.size)) ([.ref (ad k0), .ref (ad k1), .int p2] : List Value).toArray s 0 0 (pt_fr ad s.heap.size)) (F0 m 88 ls [.int xs0]) := by
    intro xs0 M H locs ls hw hP hS hl
    unfold wjX3_isOpen_88 at hw
    exact W.zret (v := xs0) (ty := .boolean) hx hb hr (pt_zb_n hw.1) (fun t ht hW => ⟨⟨xs0, M, rfl, hw.2, by unfold pt_B; rw [ht]; exact hP⟩, hS.F ht⟩) hS.2.2 dX3_isOpen_88
  have J31 : ∀ (M : pt_M) (H : Heap) (locs : List Loc) (ls : Array Slot), wjX3_isOpen_31 k0 k1 p2 Q M → va_P D pt_cl (pt_W cA ad M) H → va_S (pt_fr ad s.heap.size) s.heap H locs → lv_has ls 3 [] → W p l e (headSpec (Cond.code yX3_isOpen cX3_isOpen 3 (some .boolean) :: lw_all) ({ frames := 1, cells := 0, slots := 0, locals := 21 } : Room)).room s m ([.ref (ad k0), .ref (ad k1), .int p2] : List Value).toArray below meth c H locs 0 0 (MQ below (va_Qi Q (pt_B D cA ad) (pt_fr ad s.heap.size)) ([.ref (ad k0), .ref (ad k1), .int p2] : List Value).toArray s 0 0 (pt_fr ad s.heap.size)) (F0 m 31 ls []) := by
    intro M H locs ls hw hP hS hl
    unfold wjX3_isOpen_31 at hw
    refine lv_iconst (v := 0) hx hb dX3_isOpen_31 (by decide) ?_
    exact W.zret (v := 0) (ty := .boolean) hx hb hr rfl (fun t ht hW => ⟨⟨0, M, rfl, hw, by unfold pt_B; rw [ht]; exact hP⟩, hS.F ht⟩) hS.2.2 dX3_isOpen_32
  unfold wpX3_isOpen at hw
  refine lv_aload_n hx hb dX3_isOpen_0 rfl (lv_at hl 0 rfl) ?_
  refine pt_get F hP (pt_c3 _ hk0) (pt_l3 hk0) inX3 rfl 1 (by decide) kw_290 rfl rfl dX3_isOpen_1 ?_
  refine pt_get F hP (pt_c4 _ (pt_3s hk0)) (pt_l4 (pt_3s hk0)) inX4 rfl 3 (by decide) kw_278 rfl rfl dX3_isOpen_4 ?_
  refine lv_aload_n hx hb dX3_isOpen_7 rfl (lv_at hl 1 rfl) ?_
  refine pt_get F hP (pt_c6 _ hk1) (pt_l6 hk1) inX6 rfl 1 (by decide) kw_186 rfl rfl dX3_isOpen_8 ?_
  refine pt_calli (pt_runSN (n := 2) (As := [.int (M (k0 + 1) 3), .int (M k1 1)]) (rest := []) F hP (mtX7_has l D cA ad hI _ (M (k0 + 1) 3) (M k1 1) M _ hw) kw_449 kw_724 kw_52 kw_448 ⟨by decide, by decide, by decide +kernel⟩ ⟨rfl, rfl, Nat.le_of_ble_eq_true rfl, Nat.le_of_ble_eq_true rfl⟩ rfl hl.1 rfl (Nat.le_of_ble_eq_true rfl) dX3_isOpen_11 ⟨Nat.zero_le _, Nat.zero_le _⟩) hS (fun _ h => h) (fun r_11 M_11 H locs hw hP hS _ _ => ?_)
  refine lv_if_eq (tgt := 31) hx hb dX3_isOpen_14 (by decide) (fun hc14 => ?_) (fun hc14 => ?_)
  · replace hw := hw.1 hc14
    exact J31 M_11 _ _ _ hw hP hS (lv_sub hl [] rfl)
  · replace hw := hw.2 hc14
    refine lv_aload_n hx hb dX3_isOpen_17 rfl (lv_at hl 1 rfl) ?_
    refine lv_aload_n hx hb dX3_isOpen_18 rfl (lv_at hl 0 rfl) ?_
    refine pt_get F hP (pt_c3 _ hk0) (pt_l3 hk0) inX3 rfl 1 (by decide) kw_290 rfl rfl dX3_isOpen_19 ?_
    refine pt_get F hP (pt_c4 _ (pt_3s hk0)) (pt_l4 (pt_3s hk0)) inX4 rfl 2 (by decide) kw_274 rfl rfl dX3_isOpen_22 ?_
    refine pt_calli (pt_runV (n := 1) (As := [.ref (ad ((k0 + 1) + 3))]) (rest := []) F hP (pt_c6 _ hk1) (pt_l6 hk1) rfl (mtX6_isAllowed l D cA ad hI _ k1 hk1 ((k0 + 1) + 3) (pt_4v (pt_3s hk0)) M_11 _ hw) kw_773 kw_770 kw_56 kw_771 kw_772 ⟨by decide, by decide, by decide +kernel⟩ ⟨rfl, rfl, Nat.le_of_ble_eq_true rfl, Nat.le_of_ble_eq_true rfl⟩ rfl hl.1 rfl (Nat.le_of_ble_eq_true rfl) dX3_isOpen_25 ⟨Nat.zero_le _, Nat.zero_le _⟩) hS (fun _ h => h) (fun r_25 M_25 H locs hw hP hS _ _ => ?_)
    refine lv_if_ne (tgt := 33) hx hb dX3_isOpen_28 (by decide) (fun hc28 => ?_) (fun hc28 => ?_)
    · replace hw := hw.1 hc28
      refine lv_aload_n hx hb dX3_isOpen_33 rfl (lv_at hl 1 rfl) ?_
      refine pt_get F hP (pt_c6 _ hk1) (pt_l6 hk1) inX6 rfl 2 (by decide) kw_188 rfl rfl dX3_isOpen_34 ?_
      by_cases hn37_0 : (M_25 k1 2) = 1
      · replace hw := hw.1 hn37_0
        refine lv_lookup (off := 27) (tgt := 64) hx hb dX3_isOpen_37 (by decide) (by rw [hn37_0]; rfl) (by decide) ?_
        refine lv_aload_n hx hb dX3_isOpen_64 rfl (lv_at hl 0 rfl) ?_
        refine pt_get F hP (pt_c3 _ hk0) (pt_l3 hk0) inX3 rfl 1 (by decide) kw_290 rfl rfl dX3_isOpen_65 ?_
        refine pt_get F hP (pt_c4 _ (pt_3s hk0)) (pt_l4 (pt_3s hk0)) inX4 rfl 0 (by decide) kw_268 rfl rfl dX3_isOpen_68 ?_
        refine lv_aload_n hx hb dX3_isOpen_71 rfl (lv_at hl 1 rfl) ?_
        refine pt_get F hP (pt_c6 _ hk1) (pt_l6 hk1) inX6 rfl 1 (by decide) kw_186 rfl rfl dX3_isOpen_72 ?_
        have hv75 := hw.1
        replace hw := hw.2
        refine pt_iald F hP (pt_4a (pt_3s hk0)) hv75 dX3_isOpen_75 ?_
        refine lv_aload_n hx hb dX3_isOpen_76 rfl (lv_at hl 1 rfl) ?_
        refine pt_get F hP (pt_c6 _ hk1) (pt_l6 hk1) inX6 rfl 3 (by decide) kw_190 rfl rfl dX3_isOpen_77 ?_
        refine lv_icmp_ne (tgt := 87) hx hb dX3_isOpen_80 (by decide) (fun hc80 => ?_) (fun hc80 => ?_)
        · replace hw := hw.1 hc80
          refine lv_iconst (v := 0) hx hb dX3_isOpen_87 (by decide) ?_
          exact J88 0 M_25 _ _ _ hw hP hS (lv_sub hl [] rfl)
        · replace hw := hw.2 hc80
          refine lv_iconst (v := 1) hx hb dX3_isOpen_83 (by decide) ?_
          refine lv_goto (tgt := 88) hx hb dX3_isOpen_84 (by decide) ?_
          exact J88 1 M_25 _ _ _ hw hP hS (lv_sub hl [] rfl)
      · replace hw := hw.2 hn37_0
        by_cases hn37_1 : (M_25 k1 2) = 2
        · replace hw := hw.1 hn37_1
          refine lv_lookup (off := 52) (tgt := 89) hx hb dX3_isOpen_37 (by decide) (by rw [hn37_1]; rfl) (by decide) ?_
          refine lv_iload_n hx hb dX3_isOpen_89 rfl (lv_at hl 2 rfl) ?_
          refine lv_aload_n hx hb dX3_isOpen_90 rfl (lv_at hl 1 rfl) ?_
          refine pt_get F hP (pt_c6 _ hk1) (pt_l6 hk1) inX6 rfl 1 (by decide) kw_186 rfl rfl dX3_isOpen_91 ?_
          refine pt_calli (pt_runSN (n := 2) (As := [.int p2, .int (M_25 k1 1)]) (rest := []) F hP (mtX7_has l D cA ad hI _ p2 (M_25 k1 1) M_25 _ hw) kw_449 kw_724 kw_52 kw_448 ⟨by decide, by decide, by decide +kernel⟩ ⟨rfl, rfl, Nat.le_of_ble_eq_true rfl, Nat.le_of_ble_eq_true rfl⟩ rfl hl.1 rfl (Nat.le_of_ble_eq_true rfl) dX3_isOpen_94 ⟨Nat.zero_le _, Nat.zero_le _⟩) hS (fun _ h => h) (fun r_94 M_94 H locs hw hP hS _ _ => ?_)
          exact W.zret (v := r_94) (ty := .boolean) hx hb hr (pt_zb_n hw.1) (fun t ht hW => ⟨⟨r_94, M_94, rfl, hw.2, by unfold pt_B; rw [ht]; exact hP⟩, hS.F ht⟩) hS.2.2 dX3_isOpen_97
        · replace hw := hw.2 hn37_1
          refine lv_lookup (off := 61) (tgt := 98) hx hb dX3_isOpen_37 (by decide) (pt_look1_2 hn37_0 hn37_1) (by decide) ?_
          refine lv_iconst (v := 1) hx hb dX3_isOpen_98 (by decide) ?_
          exact W.zret (v := 1) (ty := .boolean) hx hb hr rfl (fun t ht hW => ⟨⟨1, M_25, rfl, hw, by unfold pt_B; rw [ht]; exact hP⟩, hS.F ht⟩) hS.2.2 dX3_isOpen_99
    · replace hw := hw.2 hc28
      exact J31 M_25 _ _ _ hw hP hS (lv_sub hl [] rfl)
-- ===== X3_openBy
def wjX3_openBy_86 (k0 : Nat) (p1 : Int32) (Q : Int32 → pt_M → Prop) (R37 : Int32 → Int32 → Int32 → Int32 → pt_M → Prop) (x2 : Int32) (x3 : Int32) (x4 : Int32) (x5 : Int32) (M : pt_M) : Prop :=
  ∀ x5_86 : Int32, x5_86 = x5 + 1 → R37 x2 x3 x4 x5_86 M
def lbX3_openBy_37 (k0 : Nat) (p1 : Int32) (Q : Int32 → pt_M → Prop)  (R37 : Int32 → Int32 → Int32 → Int32 → pt_M → Prop) (x2 : Int32) (x3 : Int32) (x4 : Int32) (x5 : Int32) (M : pt_M) : Prop :=
  ((M 1 4) ≤ x5 → Q x4 M) ∧ (¬ (M 1 4) ≤ x5 → wpX7_has x2 x5 M (fun (r_52 : Int32) (M_52 : pt_M) => (r_52 = 0 → wjX3_openBy_86 k0 p1 Q R37 x2 x3 x4 x5 M_52) ∧ (¬ r_52 = 0 → vp_in x5 30 ∧ (wpX3_isOpen k0 (pt_t x5) x3 M_52 (fun (r_70 : Int32) (M_70 : pt_M) => (r_70 = 0 → wjX3_openBy_86 k0 p1 Q R37 x2 x3 x4 x5 M_70) ∧ (¬ r_70 = 0 → wpX7_setOf x5 M_70 (fun (r_80 : Int32) (M_80 : pt_M) => ∀ x4_84 : Int32, x4_84 = (x4 ||| r_80) → wjX3_openBy_86 k0 p1 Q R37 x2 x3 x4_84 x5 M_80)))))))
def lpX3_openBy_37 (k0 : Nat) (p1 : Int32) (Q : Int32 → pt_M → Prop)  : Nat → Int32 → Int32 → Int32 → Int32 → pt_M → Prop
  | 0 => fun _ _ _ _ _ => False
  | n + 1 => fun x2 x3 x4 x5 M => lbX3_openBy_37 k0 p1 Q (lpX3_openBy_37 k0 p1 Q n) x2 x3 x4 x5 M
def wpX3_openBy (k0 : Nat) (p1 : Int32) (M : pt_M) (Q : Int32 → pt_M → Prop) : Prop :=
  vp_in p1 12 ∧ (∀ x2_9 : Int32, x2_9 = (M 4 (Int32.toNatClampNeg p1)) → (¬ x2_9 = 0 → wpX1_endedAmong (M (k0 + 1) 3) M (fun (r_27 : Int32) (M_27 : pt_M) => ∃ n : Nat, lpX3_openBy_37 k0 p1 Q n x2_9 r_27 0 0 M_27)) ∧ (x2_9 = 0 → Q 0 M))
set_option maxHeartbeats 4000000 in
set_option maxRecDepth 100000 in
theorem mtX3_openBy (l : Launch) (D : va_G) (cA : Nat → ClassId) (ad : Nat → Nat) (hI : pt_I ad) (sz : Nat) (k0 : Nat) (hk0 : pt_kd k0 = 3) (p1 : Int32) (M : pt_M) (Q : Int32 → pt_M → Prop) (hw : wpX3_openBy k0 p1 M Q) : Met l yX3_openBy (Cond.code yX3_openBy cX3_openBy 6 (some .int) :: lw_all) ({ frames := 2, cells := 0, slots := 0, locals := 46 } : Room) (va_Pc [.ref (ad k0), .int p1] (pt_P D cA ad sz M)) (va_Qi Q (pt_B D cA ad) (pt_fr ad sz)) 0 0 (pt_fr ad sz) := by
  refine Met.ofW (cc := cX3_openBy) (maxL := 6) (ret := (some .int)) (by decide) rfl ?_
  intro p e s m args below meth c s₁ B hml hv
  obtain ⟨rfl, hsz, hP, hK⟩ := hv
  have hx := B.exec
  have hb := B.bytes
  have hr := B.returns
  have hts0 := atoms_spec (ws := (Cond.code yX3_openBy cX3_openBy 6 (some .int) :: lw_all)) B.pre
  have hown : s.vm.findClass RX3 = some m.cls := findClass_of_methodNamed B.named
  have hlocks := B.notSynchronized
  subst hsz
  have F : pt_F p m c cX3_openBy 6 s _ RX3 D cA := ⟨⟨hx, hb, hml, hown, fun w h => hts0 w (List.mem_cons_of_mem _ h)⟩, hK⟩
  have hD : ∀ M, va_D (pt_fr ad s.heap.size) (pt_W cA ad M) := pt_D hI (fun k h => Or.inl ⟨k, h, rfl⟩)
  have hS : va_S (pt_fr ad s.heap.size) s.heap s.heap [] := va_S.rf
  have hl := lv_entry ([.ref (ad k0), .int p1]) (n := 6) (Nat.le_of_ble_eq_true rfl)
  rw [lg_entry_eq]
  generalize (lg_sl ([.ref (ad k0), .int p1]) ++ List.replicate (6 - (lg_sl ([.ref (ad k0), .int p1])).length) Slot.unset).toArray = ls at hl ⊢
  have hl : lv_has ls 6 [(0, .ref (ad k0)), (1, .int p1)] := hl
  have L37 : ∀ (n37 : Nat) (x2 : Int32) (x3 : Int32) (x4 : Int32) (x5 : Int32) (M : pt_M) (H : Heap) (locs : List Loc) (ls : Array Slot), lpX3_openBy_37 k0 p1 Q n37 x2 x3 x4 x5 M → va_P D pt_cl (pt_W cA ad M) H → va_S (pt_fr ad s.heap.size) s.heap H locs → lv_has ls 6 [(0, .ref (ad k0)), (2, .int x2), (3, .int x3), (4, .int x4), (5, .int x5)] → W p l e (headSpec (Cond.code yX3_openBy cX3_openBy 6 (some .int) :: lw_all) ({ frames := 2, cells := 0, slots := 0, locals := 46 } : Room)).room s m ([.ref (ad k0), .int p1] : List Value).toArray below meth c H locs 0 0 (MQ below (va_Qi Q (pt_B D cA ad) (pt_fr ad s.heap.size)) ([.ref (ad k0), .int p1] : List Value).toArray s 0 0 (pt_fr ad s.heap.size)) (F0 m 37 ls []) := by
    intro n37
    induction n37 with
    | zero => intro x2 x3 x4 x5 M H locs ls hw; exact hw.elim
    | succ n37 ih37 =>
      have J86 : ∀ (x2 : Int32) (x3 : Int32) (x4 : Int32) (x5 : Int32) (M : pt_M) (H : Heap) (locs : List Loc) (ls : Array Slot), wjX3_openBy_86 k0 p1 Q (lpX3_openBy_37 k0 p1 Q n37) x2 x3 x4 x5 M → va_P D pt_cl (pt_W cA ad M) H → va_S (pt_fr ad s.heap.size) s.heap H locs → lv_has ls 6 [(0, .ref (ad k0)), (2, .int x2), (3, .int x3), (4, .int x4), (5, .int x5)] → W p l e (headSpec (Cond.code yX3_openBy cX3_openBy 6 (some .int) :: lw_all) ({ frames := 2, cells := 0, slots := 0, locals := 46 } : Room)).room s m ([.ref (ad k0), .int p1] : List Value).toArray below meth c H locs 0 0 (MQ below (va_Qi Q (pt_B D cA ad) (pt_fr ad s.heap.size)) ([.ref (ad k0), .int p1] : List Value).toArray s 0 0 (pt_fr ad s.heap.size)) (F0 m 86 ls []) := by
        intro x2 x3 x4 x5 M H locs ls hw hP hS hl
        unfold wjX3_openBy_86 at hw
        obtain ⟨x5_86, ex5_86⟩ : ∃ y : Int32, y = x5 + 1 := ⟨_, rfl⟩
        replace hw := hw x5_86 ex5_86
        refine lv_iinc (v := x5_86) (lv' := [(5, .int x5_86), (0, .ref (ad k0)), (2, .int x2), (3, .int x3), (4, .int x4)]) hx hb dX3_openBy_86 hl (k := 4) rfl (by rw [ex5_86]; rfl) (by decide) rfl (fun ls hl => ?_)
        refine lv_goto (tgt := 37) hx hb dX3_openBy_89 (by decide) ?_
        exact ih37 x2 x3 x4 x5_86 M _ _ _ hw hP hS (lv_sub hl [1, 2, 3, 4, 0] rfl)
      intro x2 x3 x4 x5 M H locs ls hw hP hS hl
      replace hw : lbX3_openBy_37 k0 p1 Q (lpX3_openBy_37 k0 p1 Q n37) x2 x3 x4 x5 M := hw
      unfold lbX3_openBy_37 at hw
      refine lv_iload hx hb dX3_openBy_37 (lv_at hl 4 rfl) ?_
      refine lv_aload_n hx hb dX3_openBy_39 rfl (lv_at hl 0 rfl) ?_
      refine pt_get F hP (pt_c3 _ hk0) (pt_l3 hk0) inX3 rfl 0 (by decide) kw_289 rfl rfl dX3_openBy_40 ?_
      refine pt_get F hP (pt_c1 _ pt_k1) (pt_l1 pt_k1) inX1 rfl 4 (by decide) kw_235 rfl rfl dX3_openBy_43 ?_
      refine lv_icmp_ge (tgt := 92) hx hb dX3_openBy_46 (by decide) (fun hc46 => ?_) (fun hc46 => ?_)
      · replace hw := hw.1 hc46
        refine lv_iload hx hb dX3_openBy_92 (lv_at hl 3 rfl) ?_
        exact W.iret (v := x4) hx hb hr (fun t ht hW => ⟨⟨x4, M, rfl, hw, by unfold pt_B; rw [ht]; exact hP⟩, hS.F ht⟩) hS.2.2 dX3_openBy_94
      · replace hw := hw.2 hc46
        refine lv_iload_n hx hb dX3_openBy_49 rfl (lv_at hl 1 rfl) ?_
        refine lv_iload hx hb dX3_openBy_50 (lv_at hl 4 rfl) ?_
        refine pt_calli (pt_runSN (n := 2) (As := [.int x2, .int x5]) (rest := []) F hP (mtX7_has l D cA ad hI _ x2 x5 M _ hw) kw_449 kw_724 kw_52 kw_448 ⟨by decide, by decide, by decide +kernel⟩ ⟨rfl, rfl, Nat.le_of_ble_eq_true rfl, Nat.le_of_ble_eq_true rfl⟩ rfl hl.1 rfl (Nat.le_of_ble_eq_true rfl) dX3_openBy_52 ⟨Nat.zero_le _, Nat.zero_le _⟩) hS (fun _ h => h) (fun r_52 M_52 H locs hw hP hS _ _ => ?_)
        refine lv_if_eq (tgt := 86) hx hb dX3_openBy_55 (by decide) (fun hc55 => ?_) (fun hc55 => ?_)
        · replace hw := hw.1 hc55
          exact J86 x2 x3 x4 x5 M_52 _ _ _ hw hP hS (lv_sub hl [0, 1, 2, 3, 4] rfl)
        · replace hw := hw.2 hc55
          refine lv_aload_n hx hb dX3_openBy_58 rfl (lv_at hl 0 rfl) ?_
          refine lv_aload_n hx hb dX3_openBy_59 rfl (lv_at hl 0 rfl) ?_
          refine pt_get F hP (pt_c3 _ hk0) (pt_l3 hk0) inX3 rfl 0 (by decide) kw_289 rfl rfl dX3_openBy_60 ?_
          refine pt_get F hP (pt_c1 _ pt_k1) (pt_l1 pt_k1) inX1 rfl 1 (by decide) kw_227 rfl rfl dX3_openBy_63 ?_
          refine lv_iload hx hb dX3_openBy_66 (lv_at hl 4 rfl) ?_
          have hv68 := hw.1
          replace hw := hw.2
          refine pt_aldt F hP hv68 dX3_openBy_68 ?_
          refine lv_iload_n hx hb dX3_openBy_69 rfl (lv_at hl 2 rfl) ?_
          refine pt_calli (pt_runV (n := 2) (As := [.ref (ad (pt_t x5)), .int x3]) (rest := []) F hP (pt_c3 _ hk0) (pt_l3 hk0) rfl (mtX3_isOpen l D cA ad hI _ k0 hk0 (pt_t x5) (pt_kt hv68) x3 M_52 _ hw) kw_769 kw_766 kw_57 kw_768 kw_11 ⟨by decide, by decide, by decide +kernel⟩ ⟨rfl, rfl, Nat.le_of_ble_eq_true rfl, Nat.le_of_ble_eq_true rfl⟩ rfl hl.1 rfl (Nat.le_of_ble_eq_true rfl) dX3_openBy_70 ⟨Nat.zero_le _, Nat.zero_le _⟩) hS (fun _ h => h) (fun r_70 M_70 H locs hw hP hS _ _ => ?_)
          refine lv_if_eq (tgt := 86) hx hb dX3_openBy_73 (by decide) (fun hc73 => ?_) (fun hc73 => ?_)
          · replace hw := hw.1 hc73
            exact J86 x2 x3 x4 x5 M_70 _ _ _ hw hP hS (lv_sub hl [0, 1, 2, 3, 4] rfl)
          · replace hw := hw.2 hc73
            refine lv_iload hx hb dX3_openBy_76 (lv_at hl 3 rfl) ?_
            refine lv_iload hx hb dX3_openBy_78 (lv_at hl 4 rfl) ?_
            refine pt_calli (pt_runSN (n := 1) (As := [.int x5]) (rest := [.int x4]) F hP (mtX7_setOf l D cA ad hI _ x5 M_70 _ hw) kw_103 kw_725 kw_52 kw_102 ⟨by decide, by decide, by decide +kernel⟩ ⟨rfl, rfl, Nat.le_of_ble_eq_true rfl, Nat.le_of_ble_eq_true rfl⟩ rfl hl.1 rfl (Nat.le_of_ble_eq_true rfl) dX3_openBy_80 ⟨Nat.zero_le _, Nat.zero_le _⟩) hS (fun _ h => h) (fun r_80 M_80 H locs hw hP hS _ _ => ?_)
            refine lv_ior hx hb dX3_openBy_83 ?_
            refine lv_topi (fun x4_84 ex4_84 => ?_)
            replace hw := hw x4_84 ex4_84
            refine lv_istore (lv' := [(4, .int x4_84), (0, .ref (ad k0)), (2, .int x2), (3, .int x3), (5, .int x5)]) hx hb dX3_openBy_84 hl (by decide) rfl (fun ls hl => ?_)
            exact J86 x2 x3 x4_84 x5 M_80 _ _ _ hw hP hS (lv_sub hl [1, 2, 3, 0, 4] rfl)
  unfold wpX3_openBy at hw
  refine lv_aload_n hx hb dX3_openBy_0 rfl (lv_at hl 0 rfl) ?_
  refine pt_get F hP (pt_c3 _ hk0) (pt_l3 hk0) inX3 rfl 0 (by decide) kw_289 rfl rfl dX3_openBy_1 ?_
  refine pt_get F hP (pt_c1 _ pt_k1) (pt_l1 pt_k1) inX1 rfl 2 (by decide) kw_229 rfl rfl dX3_openBy_4 ?_
  refine lv_iload_n hx hb dX3_openBy_7 rfl (lv_at hl 1 rfl) ?_
  have hv8 := hw.1
  replace hw := hw.2
  refine pt_iald F hP pt_a4 hv8 dX3_openBy_8 ?_
  refine lv_topi (fun x2_9 ex2_9 => ?_)
  replace hw := hw x2_9 ex2_9
  refine lv_istore_n (lv' := [(2, .int x2_9), (0, .ref (ad k0)), (1, .int p1)]) hx hb dX3_openBy_9 rfl hl (by decide) rfl (fun ls hl => ?_)
  refine lv_iload_n hx hb dX3_openBy_10 rfl (lv_at hl 0 rfl) ?_
  refine lv_if_ne (tgt := 16) hx hb dX3_openBy_11 (by decide) (fun hc11 => ?_) (fun hc11 => ?_)
  · replace hw := hw.1 hc11
    refine lv_aload_n hx hb dX3_openBy_16 rfl (lv_at hl 1 rfl) ?_
    refine pt_get F hP (pt_c3 _ hk0) (pt_l3 hk0) inX3 rfl 0 (by decide) kw_289 rfl rfl dX3_openBy_17 ?_
    refine lv_aload_n hx hb dX3_openBy_20 rfl (lv_at hl 1 rfl) ?_
    refine pt_get F hP (pt_c3 _ hk0) (pt_l3 hk0) inX3 rfl 1 (by decide) kw_290 rfl rfl dX3_openBy_21 ?_
    refine pt_get F hP (pt_c4 _ (pt_3s hk0)) (pt_l4 (pt_3s hk0)) inX4 rfl 3 (by decide) kw_278 rfl rfl dX3_openBy_24 ?_
    refine pt_calli (pt_runV (n := 1) (As := [.int (M (k0 + 1) 3)]) (rest := []) F hP (pt_c1 _ pt_k1) (pt_l1 pt_k1) rfl (mtX1_endedAmong l D cA ad hI _ (M (k0 + 1) 3) M _ hw) kw_473 kw_765 kw_53 kw_471 kw_472 ⟨by decide, by decide, by decide +kernel⟩ ⟨rfl, rfl, Nat.le_of_ble_eq_true rfl, Nat.le_of_ble_eq_true rfl⟩ rfl hl.1 rfl (Nat.le_of_ble_eq_true rfl) dX3_openBy_27 ⟨Nat.zero_le _, Nat.zero_le _⟩) hS (fun _ h => h) (fun r_27 M_27 H locs hw hP hS _ _ => ?_)
    refine lv_istore_n (lv' := [(3, .int r_27), (2, .int x2_9), (0, .ref (ad k0)), (1, .int p1)]) hx hb dX3_openBy_30 rfl hl (by decide) rfl (fun ls hl => ?_)
    refine lv_iconst (v := 0) hx hb dX3_openBy_31 (by decide) ?_
    refine lv_istore (lv' := [(4, .int 0), (3, .int r_27), (2, .int x2_9), (0, .ref (ad k0)), (1, .int p1)]) hx hb dX3_openBy_32 hl (by decide) rfl (fun ls hl => ?_)
    refine lv_iconst (v := 0) hx hb dX3_openBy_34 (by decide) ?_
    refine lv_istore (lv' := [(5, .int 0), (4, .int 0), (3, .int r_27), (2, .int x2_9), (0, .ref (ad k0)), (1, .int p1)]) hx hb dX3_openBy_35 hl (by decide) rfl (fun ls hl => ?_)
    obtain ⟨n_, hw⟩ := hw
    exact L37 n_ x2_9 r_27 0 0 M_27 _ _ _ hw hP hS (lv_sub hl [4, 3, 2, 1, 0] rfl)
  · replace hw := hw.2 hc11
    refine lv_iconst (v := 0) hx hb dX3_openBy_14 (by decide) ?_
    exact W.iret (v := 0) hx hb hr (fun t ht hW => ⟨⟨0, M, rfl, hw, by unfold pt_B; rw [ht]; exact hP⟩, hS.F ht⟩) hS.2.2 dX3_openBy_15
-- ===== X3_smallestOf
def wpX3_smallestOf (p1 : Int32) (M : pt_M) (Q : Int32 → pt_M → Prop) : Prop :=
  wpJ6_bitCount_0f7a4 ((p1 &&& (-p1)) - 1) M (fun (r_6 : Int32) (M_6 : pt_M) => Q r_6 M_6)
set_option maxHeartbeats 4000000 in
set_option maxRecDepth 100000 in
theorem mtX3_smallestOf (l : Launch) (D : va_G) (cA : Nat → ClassId) (ad : Nat → Nat) (hI : pt_I ad) (sz : Nat) (p1 : Int32) (M : pt_M) (Q : Int32 → pt_M → Prop) (hw : wpX3_smallestOf p1 M Q) : Met l yX3_smallestOf (Cond.code yX3_smallestOf cX3_smallestOf 1 (some .int) :: lw_all) ({ frames := 1, cells := 0, slots := 0, locals := 20 } : Room) (va_Pc [.int p1] (pt_P D cA ad sz M)) (va_Qi Q (pt_B D cA ad) (pt_fr ad sz)) 0 0 (pt_fr ad sz) := by
  refine Met.ofW (cc := cX3_smallestOf) (maxL := 1) (ret := (some .int)) (by decide) rfl ?_
  intro p e s m args below meth c s₁ B hml hv
  obtain ⟨rfl, hsz, hP, hK⟩ := hv
  have hx := B.exec
  have hb := B.bytes
  have hr := B.returns
  have hts0 := atoms_spec (ws := (Cond.code yX3_smallestOf cX3_smallestOf 1 (some .int) :: lw_all)) B.pre
  have hown : s.vm.findClass RX3 = some m.cls := findClass_of_methodNamed B.named
  have hlocks := B.notSynchronized
  subst hsz
  have F : pt_F p m c cX3_smallestOf 1 s _ RX3 D cA := ⟨⟨hx, hb, hml, hown, fun w h => hts0 w (List.mem_cons_of_mem _ h)⟩, hK⟩
  have hD : ∀ M, va_D (pt_fr ad s.heap.size) (pt_W cA ad M) := pt_D hI (fun k h => Or.inl ⟨k, h, rfl⟩)
  have hS : va_S (pt_fr ad s.heap.size) s.heap s.heap [] := va_S.rf
  have hl := lv_entry ([.int p1]) (n := 1) (Nat.le_of_ble_eq_true rfl)
  rw [lg_entry_eq]
  generalize (lg_sl ([.int p1]) ++ List.replicate (1 - (lg_sl ([.int p1])).length) Slot.unset).toArray = ls at hl ⊢
  have hl : lv_has ls 1 [(0, .int p1)] := hl
  unfold wpX3_smallestOf at hw
  refine lv_iload_n hx hb dX3_smallestOf_0 rfl (lv_at hl 0 rfl) ?_
  refine lv_iload_n hx hb dX3_smallestOf_1 rfl (lv_at hl 0 rfl) ?_
  refine lv_ineg hx hb dX3_smallestOf_2 ?_
  refine lv_iand hx hb dX3_smallestOf_3 ?_
  refine lv_iconst (v := 1) hx hb dX3_smallestOf_4 (by decide) ?_
  refine lv_isub hx hb dX3_smallestOf_5 ?_
  refine pt_calli (pt_runS (n := 1) (As := [.int ((p1 &&& (-p1)) - 1)]) (rest := []) F hP (mtJ6_bitCount_0f7a4 l D cA ad hI _ ((p1 &&& (-p1)) - 1) M _ hw) kw_443 kw_785 kw_80 kw_442 ⟨by decide, by decide, by decide +kernel⟩ ⟨rfl, rfl, Nat.le_of_ble_eq_true rfl, Nat.le_of_ble_eq_true rfl⟩ rfl hl.1 rfl (Nat.le_of_ble_eq_true rfl) dX3_smallestOf_6 ⟨Nat.zero_le _, Nat.zero_le _⟩) hS (fun _ h => h) (fun r_6 M_6 H locs hw hP hS _ _ => ?_)
  exact W.iret (v := r_6) hx hb hr (fun t ht hW => ⟨⟨r_6, M_6, rfl, hw, by unfold pt_B; rw [ht]; exact hP⟩, hS.F ht⟩) hS.2.2 dX3_smallestOf_9
-- ===== X3_nearestOpen
def wjX3_nearestOpen_77 (k0 : Nat) (p1 : Int32) (p2 : Int32) (Q : Int32 → pt_M → Prop) (R2 : Int32 → pt_M → Prop) (x3 : Int32) (M : pt_M) : Prop :=
  ∀ x3_77 : Int32, x3_77 = x3 + (-1) → R2 x3_77 M
def wjX3_nearestOpen_35 (k0 : Nat) (p1 : Int32) (p2 : Int32) (Q : Int32 → pt_M → Prop) (R2 : Int32 → pt_M → Prop) (x3 : Int32) (xs0 : Int32) (M : pt_M) : Prop :=
  (xs0 = 0 → wjX3_nearestOpen_77 k0 p1 p2 Q R2 x3 M) ∧ (¬ xs0 = 0 → vp_in x3 20 ∧ ((((M (pt_s x3) 8) &&& p2) = 0 → wjX3_nearestOpen_77 k0 p1 p2 Q R2 x3 M) ∧ (¬ ((M (pt_s x3) 8) &&& p2) = 0 → vp_in x3 20 ∧ (wpX3_smallestOf ((M (pt_s x3) 8) &&& p2) M (fun (r_73 : Int32) (M_73 : pt_M) => Q r_73 M_73)))))
def wjX3_nearestOpen_30 (k0 : Nat) (p1 : Int32) (p2 : Int32) (Q : Int32 → pt_M → Prop) (R2 : Int32 → pt_M → Prop) (x3 : Int32) (M : pt_M) : Prop :=
  wjX3_nearestOpen_35 k0 p1 p2 Q R2 x3 1 M
def lbX3_nearestOpen_2 (k0 : Nat) (p1 : Int32) (p2 : Int32) (Q : Int32 → pt_M → Prop)  (R2 : Int32 → pt_M → Prop) (x3 : Int32) (M : pt_M) : Prop :=
  (x3 < 0 → Q (-1) M) ∧ (¬ x3 < 0 → (x3 = p1 → wjX3_nearestOpen_30 k0 p1 p2 Q R2 x3 M) ∧ (¬ x3 = p1 → vp_in x3 20 ∧ (wpX7_has (M (pt_s x3) 7) p1 M (fun (r_24 : Int32) (M_24 : pt_M) => (r_24 = 0 → wjX3_nearestOpen_35 k0 p1 p2 Q R2 x3 0 M_24) ∧ (¬ r_24 = 0 → wjX3_nearestOpen_30 k0 p1 p2 Q R2 x3 M_24)))))
def lpX3_nearestOpen_2 (k0 : Nat) (p1 : Int32) (p2 : Int32) (Q : Int32 → pt_M → Prop)  : Nat → Int32 → pt_M → Prop
  | 0 => fun _ _ => False
  | n + 1 => fun x3 M => lbX3_nearestOpen_2 k0 p1 p2 Q (lpX3_nearestOpen_2 k0 p1 p2 Q n) x3 M
def wpX3_nearestOpen (k0 : Nat) (p1 : Int32) (p2 : Int32) (M : pt_M) (Q : Int32 → pt_M → Prop) : Prop :=
  ∃ n : Nat, lpX3_nearestOpen_2 k0 p1 p2 Q n p1 M
set_option maxHeartbeats 4000000 in
set_option maxRecDepth 100000 in
theorem mtX3_nearestOpen (l : Launch) (D : va_G) (cA : Nat → ClassId) (ad : Nat → Nat) (hI : pt_I ad) (sz : Nat) (k0 : Nat) (hk0 : pt_kd k0 = 3) (p1 : Int32) (p2 : Int32) (M : pt_M) (Q : Int32 → pt_M → Prop) (hw : wpX3_nearestOpen k0 p1 p2 M Q) : Met l yX3_nearestOpen (Cond.code yX3_nearestOpen cX3_nearestOpen 5 (some .int) :: lw_all) ({ frames := 2, cells := 0, slots := 0, locals := 40 } : Room) (va_Pc [.ref (ad k0), .int p1, .int p2] (pt_P D cA ad sz M)) (va_Qi Q (pt_B D cA ad) (pt_fr ad sz)) 0 0 (pt_fr ad sz) := by
  refine Met.ofW (cc := cX3_nearestOpen) (maxL := 5) (ret := (some .int)) (by decide) rfl ?_
  intro p e s m args below meth c s₁ B hml hv
  obtain ⟨rfl, hsz, hP, hK⟩ := hv
  have hx := B.exec
  have hb := B.bytes
  have hr := B.returns
  have hts0 := atoms_spec (ws := (Cond.code yX3_nearestOpen cX3_nearestOpen 5 (some .int) :: lw_all)) B.pre
  have hown : s.vm.findClass RX3 = some m.cls := findClass_of_methodNamed B.named
  have hlocks := B.notSynchronized
  subst hsz
  have F : pt_F p m c cX3_nearestOpen 5 s _ RX3 D cA := ⟨⟨hx, hb, hml, hown, fun w h => hts0 w (List.mem_cons_of_mem _ h)⟩, hK⟩
  have hD : ∀ M, va_D (pt_fr ad s.heap.size) (pt_W cA ad M) := pt_D hI (fun k h => Or.inl ⟨k, h, rfl⟩)
  have hS : va_S (pt_fr ad s.heap.size) s.heap s.heap [] := va_S.rf
  have hl := lv_entry ([.ref (ad k0), .int p1, .int p2]) (n := 5) (Nat.le_of_ble_eq_true rfl)
  rw [lg_entry_eq]
  generalize (lg_sl ([.ref (ad k0), .int p1, .int p2]) ++ List.replicate (5 - (lg_sl ([.ref (ad k0), .int p1, .int p2])).length) Slot.unset).toArray = ls at hl ⊢
  have hl : lv_has ls 5 [(0, .ref (ad k0)), (1, .int p1), (2, .int p2)] := hl
  have L2 : ∀ (n2 : Nat) (x3 : Int32) (M : pt_M) (H : Heap) (locs : List Loc) (ls : Array Slot), lpX3_nearestOpen_2 k0 p1 p2 Q n2 x3 M → va_P D pt_cl (pt_W cA ad M) H → va_S (pt_fr ad s.heap.size) s.heap H locs → lv_has ls 5 [(0, .ref (ad k0)), (1, .int p1), (2, .int p2), (3, .int x3)] → W p l e (headSpec (Cond.code yX3_nearestOpen cX3_nearestOpen 5 (some .int) :: lw_all) ({ frames := 2, cells := 0, slots := 0, locals := 40 } : Room)).room s m ([.ref (ad k0), .int p1, .int p2] : List Value).toArray below meth c H locs 0 0 (MQ below (va_Qi Q (pt_B D cA ad) (pt_fr ad s.heap.size)) ([.ref (ad k0), .int p1, .int p2] : List Value).toArray s 0 0 (pt_fr ad s.heap.size)) (F0 m 2 ls []) := by
    intro n2
    induction n2 with
    | zero => intro x3 M H locs ls hw; exact hw.elim
    | succ n2 ih2 =>
      have J77 : ∀ (x3 : Int32) (M : pt_M) (H : Heap) (locs : List Loc) (ls : Array Slot), wjX3_nearestOpen_77 k0 p1 p2 Q (lpX3_nearestOpen_2 k0 p1 p2 Q n2) x3 M → va_P D pt_cl (pt_W cA ad M) H → va_S (pt_fr ad s.heap.size) s.heap H locs → lv_has ls 5 [(0, .ref (ad k0)), (1, .int p1), (2, .int p2), (3, .int x3)] → W p l e (headSpec (Cond.code yX3_nearestOpen cX3_nearestOpen 5 (some .int) :: lw_all) ({ frames := 2, cells := 0, slots := 0, locals := 40 } : Room)).room s m ([.ref (ad k0), .int p1, .int p2] : List Value).toArray below meth c H locs 0 0 (MQ below (va_Qi Q (pt_B D cA ad) (pt_fr ad s.heap.size)) ([.ref (ad k0), .int p1, .int p2] : List Value).toArray s 0 0 (pt_fr ad s.heap.size)) (F0 m 77 ls []) := by
        intro x3 M H locs ls hw hP hS hl
        unfold wjX3_nearestOpen_77 at hw
        obtain ⟨x3_77, ex3_77⟩ : ∃ y : Int32, y = x3 + (-1) := ⟨_, rfl⟩
        replace hw := hw x3_77 ex3_77
        refine lv_iinc (v := x3_77) (lv' := [(3, .int x3_77), (0, .ref (ad k0)), (1, .int p1), (2, .int p2)]) hx hb dX3_nearestOpen_77 hl (k := 3) rfl (by rw [ex3_77]; rfl) (by decide) rfl (fun ls hl => ?_)
        refine lv_goto (tgt := 2) hx hb dX3_nearestOpen_80 (by decide) ?_
        exact ih2 x3_77 M _ _ _ hw hP hS (lv_sub hl [1, 2, 3, 0] rfl)
      have J35 : ∀ (x3 : Int32) (xs0 : Int32) (M : pt_M) (H : Heap) (locs : List Loc) (ls : Array Slot), wjX3_nearestOpen_35 k0 p1 p2 Q (lpX3_nearestOpen_2 k0 p1 p2 Q n2) x3 xs0 M → va_P D pt_cl (pt_W cA ad M) H → va_S (pt_fr ad s.heap.size) s.heap H locs → lv_has ls 5 [(0, .ref (ad k0)), (1, .int p1), (2, .int p2), (3, .int x3)] → W p l e (headSpec (Cond.code yX3_nearestOpen cX3_nearestOpen 5 (some .int) :: lw_all) ({ frames := 2, cells := 0, slots := 0, locals := 40 } : Room)).room s m ([.ref (ad k0), .int p1, .int p2] : List Value).toArray below meth c H locs 0 0 (MQ below (va_Qi Q (pt_B D cA ad) (pt_fr ad s.heap.size)) ([.ref (ad k0), .int p1, .int p2] : List Value).toArray s 0 0 (pt_fr ad s.heap.size)) (F0 m 35 ls [.int xs0]) := by
        intro x3 xs0 M H locs ls hw hP hS hl
        unfold wjX3_nearestOpen_35 at hw
        refine lv_istore (lv' := [(4, .int xs0), (0, .ref (ad k0)), (1, .int p1), (2, .int p2), (3, .int x3)]) hx hb dX3_nearestOpen_35 hl (by decide) rfl (fun ls hl => ?_)
        refine lv_iload hx hb dX3_nearestOpen_37 (lv_at hl 0 rfl) ?_
        refine lv_if_eq (tgt := 77) hx hb dX3_nearestOpen_39 (by decide) (fun hc39 => ?_) (fun hc39 => ?_)
        · replace hw := hw.1 hc39
          exact J77 x3 M _ _ _ hw hP hS (lv_sub hl [1, 2, 3, 4] rfl)
        · replace hw := hw.2 hc39
          refine lv_aload_n hx hb dX3_nearestOpen_42 rfl (lv_at hl 1 rfl) ?_
          refine pt_get F hP (pt_c3 _ hk0) (pt_l3 hk0) inX3 rfl 0 (by decide) kw_289 rfl rfl dX3_nearestOpen_43 ?_
          refine pt_get F hP (pt_c1 _ pt_k1) (pt_l1 pt_k1) inX1 rfl 0 (by decide) kw_224 rfl rfl dX3_nearestOpen_46 ?_
          refine lv_iload_n hx hb dX3_nearestOpen_49 rfl (lv_at hl 4 rfl) ?_
          have hv50 := hw.1
          replace hw := hw.2
          refine pt_alds F hP hv50 dX3_nearestOpen_50 ?_
          refine pt_get F hP (pt_c5 _ (pt_ks hv50)) (pt_l5 (pt_ks hv50)) inX5 rfl 8 (by decide) kw_155 rfl rfl dX3_nearestOpen_51 ?_
          refine lv_iload_n hx hb dX3_nearestOpen_54 rfl (lv_at hl 3 rfl) ?_
          refine lv_iand hx hb dX3_nearestOpen_55 ?_
          refine lv_if_eq (tgt := 77) hx hb dX3_nearestOpen_56 (by decide) (fun hc56 => ?_) (fun hc56 => ?_)
          · replace hw := hw.1 hc56
            exact J77 x3 M _ _ _ hw hP hS (lv_sub hl [1, 2, 3, 4] rfl)
          · replace hw := hw.2 hc56
            refine lv_aload_n hx hb dX3_nearestOpen_59 rfl (lv_at hl 1 rfl) ?_
            refine pt_get F hP (pt_c3 _ hk0) (pt_l3 hk0) inX3 rfl 0 (by decide) kw_289 rfl rfl dX3_nearestOpen_60 ?_
            refine pt_get F hP (pt_c1 _ pt_k1) (pt_l1 pt_k1) inX1 rfl 0 (by decide) kw_224 rfl rfl dX3_nearestOpen_63 ?_
            refine lv_iload_n hx hb dX3_nearestOpen_66 rfl (lv_at hl 4 rfl) ?_
            have hv67 := hw.1
            replace hw := hw.2
            refine pt_alds F hP hv67 dX3_nearestOpen_67 ?_
            refine pt_get F hP (pt_c5 _ (pt_ks hv67)) (pt_l5 (pt_ks hv67)) inX5 rfl 8 (by decide) kw_155 rfl rfl dX3_nearestOpen_68 ?_
            refine lv_iload_n hx hb dX3_nearestOpen_71 rfl (lv_at hl 3 rfl) ?_
            refine lv_iand hx hb dX3_nearestOpen_72 ?_
            refine pt_calli (pt_runS (n := 1) (As := [.int ((M (pt_s x3) 8) &&& p2)]) (rest := []) F hP (mtX3_smallestOf l D cA ad hI _ ((M (pt_s x3) 8) &&& p2) M _ hw) kw_784 kw_782 kw_57 kw_783 ⟨by decide, by decide, by decide +kernel⟩ ⟨rfl, rfl, Nat.le_of_ble_eq_true rfl, Nat.le_of_ble_eq_true rfl⟩ rfl hl.1 rfl (Nat.le_of_ble_eq_true rfl) dX3_nearestOpen_73 ⟨Nat.zero_le _, Nat.zero_le _⟩) hS (fun _ h => h) (fun r_73 M_73 H locs hw hP hS _ _ => ?_)
            exact W.iret (v := r_73) hx hb hr (fun t ht hW => ⟨⟨r_73, M_73, rfl, hw, by unfold pt_B; rw [ht]; exact hP⟩, hS.F ht⟩) hS.2.2 dX3_nearestOpen_76
      have J30 : ∀ (x3 : Int32) (M : pt_M) (H : Heap) (locs : List Loc) (ls : Array Slot), wjX3_nearestOpen_30 k0 p1 p2 Q (lpX3_nearestOpen_2 k0 p1 p2 Q n2) x3 M → va_P D pt_cl (pt_W cA ad M) H → va_S (pt_fr ad s.heap.size) s.heap H locs → lv_has ls 5 [(0, .ref (ad k0)), (1, .int p1), (2, .int p2), (3, .int x3)] → W p l e (headSpec (Cond.code yX3_nearestOpen cX3_nearestOpen 5 (some .int) :: lw_all) ({ frames := 2, cells := 0, slots := 0, locals := 40 } : Room)).room s m ([.ref (ad k0), .int p1, .int p2] : List Value).toArray below meth c H locs 0 0 (MQ below (va_Qi Q (pt_B D cA ad) (pt_fr ad s.heap.size)) ([.ref (ad k0), .int p1, .int p2] : List Value).toArray s 0 0 (pt_fr ad s.heap.size)) (F0 m 30 ls []) := by
        intro x3 M H locs ls hw hP hS hl
        unfold wjX3_nearestOpen_30 at hw
        refine lv_iconst (v := 1) hx hb dX3_nearestOpen_30 (by decide) ?_
        refine lv_goto (tgt := 35) hx hb dX3_nearestOpen_31 (by decide) ?_
        exact J35 x3 1 M _ _ _ hw hP hS (lv_sub hl [0, 1, 2, 3] rfl)
      intro x3 M H locs ls hw hP hS hl
      replace hw : lbX3_nearestOpen_2 k0 p1 p2 Q (lpX3_nearestOpen_2 k0 p1 p2 Q n2) x3 M := hw
      unfold lbX3_nearestOpen_2 at hw
      refine lv_iload_n hx hb dX3_nearestOpen_2 rfl (lv_at hl 3 rfl) ?_
      refine lv_if_lt (tgt := 83) hx hb dX3_nearestOpen_3 (by decide) (fun hc3 => ?_) (fun hc3 => ?_)
      · replace hw := hw.1 hc3
        refine lv_iconst (v := (-1)) hx hb dX3_nearestOpen_83 (by decide) ?_
        exact W.iret (v := (-1)) hx hb hr (fun t ht hW => ⟨⟨(-1), M, rfl, hw, by unfold pt_B; rw [ht]; exact hP⟩, hS.F ht⟩) hS.2.2 dX3_nearestOpen_84
      · replace hw := hw.2 hc3
        refine lv_iload_n hx hb dX3_nearestOpen_6 rfl (lv_at hl 3 rfl) ?_
        refine lv_iload_n hx hb dX3_nearestOpen_7 rfl (lv_at hl 1 rfl) ?_
        refine lv_icmp_eq (tgt := 30) hx hb dX3_nearestOpen_8 (by decide) (fun hc8 => ?_) (fun hc8 => ?_)
        · replace hw := hw.1 hc8
          exact J30 x3 M _ _ _ hw hP hS (lv_sub hl [0, 1, 2, 3] rfl)
        · replace hw := hw.2 hc8
          refine lv_aload_n hx hb dX3_nearestOpen_11 rfl (lv_at hl 0 rfl) ?_
          refine pt_get F hP (pt_c3 _ hk0) (pt_l3 hk0) inX3 rfl 0 (by decide) kw_289 rfl rfl dX3_nearestOpen_12 ?_
          refine pt_get F hP (pt_c1 _ pt_k1) (pt_l1 pt_k1) inX1 rfl 0 (by decide) kw_224 rfl rfl dX3_nearestOpen_15 ?_
          refine lv_iload_n hx hb dX3_nearestOpen_18 rfl (lv_at hl 3 rfl) ?_
          have hv19 := hw.1
          replace hw := hw.2
          refine pt_alds F hP hv19 dX3_nearestOpen_19 ?_
          refine pt_get F hP (pt_c5 _ (pt_ks hv19)) (pt_l5 (pt_ks hv19)) inX5 rfl 7 (by decide) kw_153 rfl rfl dX3_nearestOpen_20 ?_
          refine lv_iload_n hx hb dX3_nearestOpen_23 rfl (lv_at hl 1 rfl) ?_
          refine pt_calli (pt_runSN (n := 2) (As := [.int (M (pt_s x3) 7), .int p1]) (rest := []) F hP (mtX7_has l D cA ad hI _ (M (pt_s x3) 7) p1 M _ hw) kw_449 kw_724 kw_52 kw_448 ⟨by decide, by decide, by decide +kernel⟩ ⟨rfl, rfl, Nat.le_of_ble_eq_true rfl, Nat.le_of_ble_eq_true rfl⟩ rfl hl.1 rfl (Nat.le_of_ble_eq_true rfl) dX3_nearestOpen_24 ⟨Nat.zero_le _, Nat.zero_le _⟩) hS (fun _ h => h) (fun r_24 M_24 H locs hw hP hS _ _ => ?_)
          refine lv_if_eq (tgt := 34) hx hb dX3_nearestOpen_27 (by decide) (fun hc27 => ?_) (fun hc27 => ?_)
          · replace hw := hw.1 hc27
            refine lv_iconst (v := 0) hx hb dX3_nearestOpen_34 (by decide) ?_
            exact J35 x3 0 M_24 _ _ _ hw hP hS (lv_sub hl [0, 1, 2, 3] rfl)
          · replace hw := hw.2 hc27
            exact J30 x3 M_24 _ _ _ hw hP hS (lv_sub hl [0, 1, 2, 3] rfl)
  unfold wpX3_nearestOpen at hw
  refine lv_iload_n hx hb dX3_nearestOpen_0 rfl (lv_at hl 1 rfl) ?_
  refine lv_istore_n (lv' := [(3, .int p1), (0, .ref (ad k0)), (1, .int p1), (2, .int p2)]) hx hb dX3_nearestOpen_1 rfl hl (by decide) rfl (fun ls hl => ?_)
  obtain ⟨n_, hw⟩ := hw
  exact L2 n_ p1 M _ _ _ hw hP hS (lv_sub hl [1, 2, 3, 0] rfl)
-- ===== X3_leftBy
def wjX3_leftBy_35 (k0 : Nat) (k1 : Nat) (Q : Int32 → pt_M → Prop)  (xs0 : Int32) (M : pt_M) : Prop :=
  Q xs0 M
def wpX3_leftBy (k0 : Nat) (k1 : Nat) (M : pt_M) (Q : Int32 → pt_M → Prop) : Prop :=
  (¬ (M k1 4) = (-1) → vp_in (M k1 5) 20 ∧ (wjX3_leftBy_35 k0 k1 Q ((M (pt_s (M k1 5)) 7) &&& (M (k0 + 1) 3)) M)) ∧ ((M k1 4) = (-1) → wjX3_leftBy_35 k0 k1 Q 0 M)
set_option maxHeartbeats 4000000 in
set_option maxRecDepth 100000 in
theorem mtX3_leftBy (l : Launch) (D : va_G) (cA : Nat → ClassId) (ad : Nat → Nat) (hI : pt_I ad) (sz : Nat) (k0 : Nat) (hk0 : pt_kd k0 = 3) (k1 : Nat) (hk1 : pt_kd k1 = 6) (M : pt_M) (Q : Int32 → pt_M → Prop) (hw : wpX3_leftBy k0 k1 M Q) : Met l yX3_leftBy (Cond.code yX3_leftBy cX3_leftBy 2 (some .int) :: lw_all) ({ frames := 0, cells := 0, slots := 0, locals := 0 } : Room) (va_Pc [.ref (ad k0), .ref (ad k1)] (pt_P D cA ad sz M)) (va_Qi Q (pt_B D cA ad) (pt_fr ad sz)) 0 0 (pt_fr ad sz) := by
  refine Met.ofW (cc := cX3_leftBy) (maxL := 2) (ret := (some .int)) (by decide) rfl ?_
  intro p e s m args below meth c s₁ B hml hv
  obtain ⟨rfl, hsz, hP, hK⟩ := hv
  have hx := B.exec
  have hb := B.bytes
  have hr := B.returns
  have hts0 := atoms_spec (ws := (Cond.code yX3_leftBy cX3_leftBy 2 (some .int) :: lw_all)) B.pre
  have hown : s.vm.findClass RX3 = some m.cls := findClass_of_methodNamed B.named
  have hlocks := B.notSynchronized
  subst hsz
  have F : pt_F p m c cX3_leftBy 2 s _ RX3 D cA := ⟨⟨hx, hb, hml, hown, fun w h => hts0 w (List.mem_cons_of_mem _ h)⟩, hK⟩
  have hD : ∀ M, va_D (pt_fr ad s.heap.size) (pt_W cA ad M) := pt_D hI (fun k h => Or.inl ⟨k, h, rfl⟩)
  have hS : va_S (pt_fr ad s.heap.size) s.heap s.heap [] := va_S.rf
  have hl := lv_entry ([.ref (ad k0), .ref (ad k1)]) (n := 2) (Nat.le_of_ble_eq_true rfl)
  rw [lg_entry_eq]
  generalize (lg_sl ([.ref (ad k0), .ref (ad k1)]) ++ List.replicate (2 - (lg_sl ([.ref (ad k0), .ref (ad k1)])).length) Slot.unset).toArray = ls at hl ⊢
  have hl : lv_has ls 2 [(0, .ref (ad k0)), (1, .ref (ad k1))] := hl
  have J35 : ∀ (xs0 : Int32) (M : pt_M) (H : Heap) (locs : List Loc) (ls : Array Slot), wjX3_leftBy_35 k0 k1 Q xs0 M → va_P D pt_cl (pt_W cA ad M) H → va_S (pt_fr ad s.heap.size) s.heap H locs → lv_has ls 2 [] → W p l e (headSpec (Cond.code yX3_leftBy cX3_leftBy 2 (some .int) :: lw_all) ({ frames := 0, cells := 0, slots := 0, locals := 0 } : Room)).room s m ([.ref (ad k0), .ref (ad k1)] : List Value).toArray below meth c H locs 0 0 (MQ below (va_Qi Q (pt_B D cA ad) (pt_fr ad s.heap.size)) ([.ref (ad k0), .ref (ad k1)] : List Value).toArray s 0 0 (pt_fr ad s.heap.size)) (F0 m 35 ls [.int xs0]) := by
    intro xs0 M H locs ls hw hP hS hl
    unfold wjX3_leftBy_35 at hw
    exact W.iret (v := xs0) hx hb hr (fun t ht hW => ⟨⟨xs0, M, rfl, hw, by unfold pt_B; rw [ht]; exact hP⟩, hS.F ht⟩) hS.2.2 dX3_leftBy_35
  unfold wpX3_leftBy at hw
  refine lv_aload_n hx hb dX3_leftBy_0 rfl (lv_at hl 1 rfl) ?_
  refine pt_get F hP (pt_c6 _ hk1) (pt_l6 hk1) inX6 rfl 4 (by decide) kw_193 rfl rfl dX3_leftBy_1 ?_
  refine lv_iconst (v := (-1)) hx hb dX3_leftBy_4 (by decide) ?_
  refine lv_icmp_ne (tgt := 12) hx hb dX3_leftBy_5 (by decide) (fun hc5 => ?_) (fun hc5 => ?_)
  · replace hw := hw.1 hc5
    refine lv_aload_n hx hb dX3_leftBy_12 rfl (lv_at hl 0 rfl) ?_
    refine pt_get F hP (pt_c3 _ hk0) (pt_l3 hk0) inX3 rfl 0 (by decide) kw_289 rfl rfl dX3_leftBy_13 ?_
    refine pt_get F hP (pt_c1 _ pt_k1) (pt_l1 pt_k1) inX1 rfl 0 (by decide) kw_224 rfl rfl dX3_leftBy_16 ?_
    refine lv_aload_n hx hb dX3_leftBy_19 rfl (lv_at hl 1 rfl) ?_
    refine pt_get F hP (pt_c6 _ hk1) (pt_l6 hk1) inX6 rfl 5 (by decide) kw_196 rfl rfl dX3_leftBy_20 ?_
    have hv23 := hw.1
    replace hw := hw.2
    refine pt_alds F hP hv23 dX3_leftBy_23 ?_
    refine pt_get F hP (pt_c5 _ (pt_ks hv23)) (pt_l5 (pt_ks hv23)) inX5 rfl 7 (by decide) kw_153 rfl rfl dX3_leftBy_24 ?_
    refine lv_aload_n hx hb dX3_leftBy_27 rfl (lv_at hl 0 rfl) ?_
    refine pt_get F hP (pt_c3 _ hk0) (pt_l3 hk0) inX3 rfl 1 (by decide) kw_290 rfl rfl dX3_leftBy_28 ?_
    refine pt_get F hP (pt_c4 _ (pt_3s hk0)) (pt_l4 (pt_3s hk0)) inX4 rfl 3 (by decide) kw_278 rfl rfl dX3_leftBy_31 ?_
    refine lv_iand hx hb dX3_leftBy_34 ?_
    exact J35 ((M (pt_s (M k1 5)) 7) &&& (M (k0 + 1) 3)) M _ _ _ hw hP hS (lv_sub hl [] rfl)
  · replace hw := hw.2 hc5
    refine lv_iconst (v := 0) hx hb dX3_leftBy_8 (by decide) ?_
    refine lv_goto (tgt := 35) hx hb dX3_leftBy_9 (by decide) ?_
    exact J35 0 M _ _ _ hw hP hS (lv_sub hl [] rfl)
-- ===== X3_takeIfFree
def wjX3_takeIfFree_145 (k0 : Nat) (p1 : Int32) (Q : pt_M → Prop) (R95 : Int32 → Int32 → Int32 → pt_M → Prop) (x3 : Int32) (x4 : Int32) (x5 : Int32) (M : pt_M) : Prop :=
  ∀ x5_145 : Int32, x5_145 = x5 + 1 → R95 x3 x4 x5_145 M
def lbX3_takeIfFree_95 (k0 : Nat) (p1 : Int32) (Q : pt_M → Prop)  (R95 : Int32 → Int32 → Int32 → pt_M → Prop) (x3 : Int32) (x4 : Int32) (x5 : Int32) (M : pt_M) : Prop :=
  ((M k0 10) ≤ x5 → vp_in x4 30 ∧ ∀ M_158 : pt_M, M_158 = pt_st M (k0 + 7) (Int32.toNatClampNeg x4) p1 → ∀ M_164 : pt_M, M_164 = pt_st M_158 k0 10 (x4 + 1) → Q M_164) ∧ (¬ (M k0 10) ≤ x5 → vp_in x5 30 ∧ (vp_in (M (k0 + 7) (Int32.toNatClampNeg x5)) 30 ∧ (wpX3_leftBy k0 (pt_t (M (k0 + 7) (Int32.toNatClampNeg x5))) M (fun (r_120 : Int32) (M_120 : pt_M) => (¬ (r_120 &&& x3) = 0 → wjX3_takeIfFree_145 k0 p1 Q R95 x3 x4 x5 M_120) ∧ ((r_120 &&& x3) = 0 → vp_in x5 30 ∧ (vp_in x4 30 ∧ ∀ M_141 : pt_M, M_141 = pt_st M_120 (k0 + 7) (Int32.toNatClampNeg x4) (M_120 (k0 + 7) (Int32.toNatClampNeg x5)) → ∀ x4_142 : Int32, x4_142 = x4 + 1 → wjX3_takeIfFree_145 k0 p1 Q R95 x3 x4_142 x5 M_141))))))
def lpX3_takeIfFree_95 (k0 : Nat) (p1 : Int32) (Q : pt_M → Prop)  : Nat → Int32 → Int32 → Int32 → pt_M → Prop
  | 0 => fun _ _ _ _ => False
  | n + 1 => fun x3 x4 x5 M => lbX3_takeIfFree_95 k0 p1 Q (lpX3_takeIfFree_95 k0 p1 Q n) x3 x4 x5 M
def wjX3_takeIfFree_83 (k0 : Nat) (p1 : Int32) (Q : pt_M → Prop) (R19 : Nat → Int32 → Int32 → pt_M → Prop) (q2 : Nat) (x3 : Int32) (x4 : Int32) (M : pt_M) : Prop :=
  ∀ x4_83 : Int32, x4_83 = x4 + 1 → R19 q2 x3 x4_83 M
def lbX3_takeIfFree_19 (k0 : Nat) (p1 : Int32) (Q : pt_M → Prop)  (R19 : Nat → Int32 → Int32 → pt_M → Prop) (q2 : Nat) (x3 : Int32) (x4 : Int32) (M : pt_M) : Prop :=
  ((M k0 10) ≤ x4 → ∃ n : Nat, lpX3_takeIfFree_95 k0 p1 Q n x3 0 0 M) ∧ (¬ (M k0 10) ≤ x4 → vp_in x4 30 ∧ (vp_in (M (k0 + 7) (Int32.toNatClampNeg x4)) 30 ∧ (wpX3_leftBy k0 (pt_t (M (k0 + 7) (Int32.toNatClampNeg x4))) M (fun (r_48 : Int32) (M_48 : pt_M) => ((r_48 &&& x3) = 0 → wjX3_takeIfFree_83 k0 p1 Q R19 q2 x3 x4 M_48) ∧ (¬ (r_48 &&& x3) = 0 → vp_in (M_48 (pt_t (M (k0 + 7) (Int32.toNatClampNeg x4))) 1) 20 ∧ (wpX7_has (M_48 (pt_s (M_48 (pt_t (M (k0 + 7) (Int32.toNatClampNeg x4))) 1)) 7) (M_48 q2 1) M_48 (fun (r_76 : Int32) (M_76 : pt_M) => (¬ r_76 = 0 → wjX3_takeIfFree_83 k0 p1 Q R19 q2 x3 x4 M_76) ∧ (r_76 = 0 → Q M_76))))))))
def lpX3_takeIfFree_19 (k0 : Nat) (p1 : Int32) (Q : pt_M → Prop)  : Nat → Nat → Int32 → Int32 → pt_M → Prop
  | 0 => fun _ _ _ _ => False
  | n + 1 => fun q2 x3 x4 M => lbX3_takeIfFree_19 k0 p1 Q (lpX3_takeIfFree_19 k0 p1 Q n) q2 x3 x4 M
def wpX3_takeIfFree (k0 : Nat) (p1 : Int32) (M : pt_M) (Q : pt_M → Prop) : Prop :=
  vp_in p1 30 ∧ (wpX3_leftBy k0 (pt_t p1) M (fun (r_12 : Int32) (M_12 : pt_M) => ∃ n : Nat, lpX3_takeIfFree_19 k0 p1 Q n (pt_t p1) r_12 0 M_12))
set_option maxHeartbeats 4000000 in
set_option maxRecDepth 100000 in
theorem mtX3_takeIfFree (l : Launch) (D : va_G) (cA : Nat → ClassId) (ad : Nat → Nat) (hI : pt_I ad) (sz : Nat) (k0 : Nat) (hk0 : pt_kd k0 = 3) (p1 : Int32) (M : pt_M) (Q : pt_M → Prop) (hw : wpX3_takeIfFree k0 p1 M Q) : Met l yX3_takeIfFree (Cond.code yX3_takeIfFree cX3_takeIfFree 6 none :: lw_all) ({ frames := 1, cells := 0, slots := 0, locals := 21 } : Room) (va_Pc [.ref (ad k0), .int p1] (pt_P D cA ad sz M)) (va_Qv Q (pt_B D cA ad) (pt_fr ad sz)) 0 0 (pt_fr ad sz) := by
  refine Met.ofW (cc := cX3_takeIfFree) (maxL := 6) (ret := none) (by decide) rfl ?_
  intro p e s m args below meth c s₁ B hml hv
  obtain ⟨rfl, hsz, hP, hK⟩ := hv
  have hx := B.exec
  have hb := B.bytes
  have hr := B.returns
  have hts0 := atoms_spec (ws := (Cond.code yX3_takeIfFree cX3_takeIfFree 6 none :: lw_all)) B.pre
  have hown : s.vm.findClass RX3 = some m.cls := findClass_of_methodNamed B.named
  have hlocks := B.notSynchronized
  subst hsz
  have F : pt_F p m c cX3_takeIfFree 6 s _ RX3 D cA := ⟨⟨hx, hb, hml, hown, fun w h => hts0 w (List.mem_cons_of_mem _ h)⟩, hK⟩
  have hD : ∀ M, va_D (pt_fr ad s.heap.size) (pt_W cA ad M) := pt_D hI (fun k h => Or.inl ⟨k, h, rfl⟩)
  have hS : va_S (pt_fr ad s.heap.size) s.heap s.heap [] := va_S.rf
  have hl := lv_entry ([.ref (ad k0), .int p1]) (n := 6) (Nat.le_of_ble_eq_true rfl)
  rw [lg_entry_eq]
  generalize (lg_sl ([.ref (ad k0), .int p1]) ++ List.replicate (6 - (lg_sl ([.ref (ad k0), .int p1])).length) Slot.unset).toArray = ls at hl ⊢
  have hl : lv_has ls 6 [(0, .ref (ad k0)), (1, .int p1)] := hl
  have L95 : ∀ (n95 : Nat) (x3 : Int32) (x4 : Int32) (x5 : Int32) (M : pt_M) (H : Heap) (locs : List Loc) (ls : Array Slot), lpX3_takeIfFree_95 k0 p1 Q n95 x3 x4 x5 M → va_P D pt_cl (pt_W cA ad M) H → va_S (pt_fr ad s.heap.size) s.heap H locs → lv_has ls 6 [(0, .ref (ad k0)), (1, .int p1), (3, .int x3), (4, .int x4), (5, .int x5)] → W p l e (headSpec (Cond.code yX3_takeIfFree cX3_takeIfFree 6 none :: lw_all) ({ frames := 1, cells := 0, slots := 0, locals := 21 } : Room)).room s m ([.ref (ad k0), .int p1] : List Value).toArray below meth c H locs 0 0 (MQ below (va_Qv Q (pt_B D cA ad) (pt_fr ad s.heap.size)) ([.ref (ad k0), .int p1] : List Value).toArray s 0 0 (pt_fr ad s.heap.size)) (F0 m 95 ls []) := by
    intro n95
    induction n95 with
    | zero => intro x3 x4 x5 M H locs ls hw; exact hw.elim
    | succ n95 ih95 =>
      have J145 : ∀ (x3 : Int32) (x4 : Int32) (x5 : Int32) (M : pt_M) (H : Heap) (locs : List Loc) (ls : Array Slot), wjX3_takeIfFree_145 k0 p1 Q (lpX3_takeIfFree_95 k0 p1 Q n95) x3 x4 x5 M → va_P D pt_cl (pt_W cA ad M) H → va_S (pt_fr ad s.heap.size) s.heap H locs → lv_has ls 6 [(0, .ref (ad k0)), (1, .int p1), (3, .int x3), (4, .int x4), (5, .int x5)] → W p l e (headSpec (Cond.code yX3_takeIfFree cX3_takeIfFree 6 none :: lw_all) ({ frames := 1, cells := 0, slots := 0, locals := 21 } : Room)).room s m ([.ref (ad k0), .int p1] : List Value).toArray below meth c H locs 0 0 (MQ below (va_Qv Q (pt_B D cA ad) (pt_fr ad s.heap.size)) ([.ref (ad k0), .int p1] : List Value).toArray s 0 0 (pt_fr ad s.heap.size)) (F0 m 145 ls []) := by
        intro x3 x4 x5 M H locs ls hw hP hS hl
        unfold wjX3_takeIfFree_145 at hw
        obtain ⟨x5_145, ex5_145⟩ : ∃ y : Int32, y = x5 + 1 := ⟨_, rfl⟩
        replace hw := hw x5_145 ex5_145
        refine lv_iinc (v := x5_145) (lv' := [(5, .int x5_145), (0, .ref (ad k0)), (1, .int p1), (3, .int x3), (4, .int x4)]) hx hb dX3_takeIfFree_145 hl (k := 4) rfl (by rw [ex5_145]; rfl) (by decide) rfl (fun ls hl => ?_)
        refine lv_goto (tgt := 95) hx hb dX3_takeIfFree_148 (by decide) ?_
        exact ih95 x3 x4 x5_145 M _ _ _ hw hP hS (lv_sub hl [1, 2, 3, 4, 0] rfl)
      intro x3 x4 x5 M H locs ls hw hP hS hl
      replace hw : lbX3_takeIfFree_95 k0 p1 Q (lpX3_takeIfFree_95 k0 p1 Q n95) x3 x4 x5 M := hw
      unfold lbX3_takeIfFree_95 at hw
      refine lv_iload hx hb dX3_takeIfFree_95 (lv_at hl 4 rfl) ?_
      refine lv_aload_n hx hb dX3_takeIfFree_97 rfl (lv_at hl 0 rfl) ?_
      refine pt_get F hP (pt_c3 _ hk0) (pt_l3 hk0) inX3 rfl 10 (by decide) kw_306 rfl rfl dX3_takeIfFree_98 ?_
      refine lv_icmp_ge (tgt := 151) hx hb dX3_takeIfFree_101 (by decide) (fun hc101 => ?_) (fun hc101 => ?_)
      · replace hw := hw.1 hc101
        refine lv_aload_n hx hb dX3_takeIfFree_151 rfl (lv_at hl 0 rfl) ?_
        refine pt_get F hP (pt_c3 _ hk0) (pt_l3 hk0) inX3 rfl 9 (by decide) kw_305 rfl rfl dX3_takeIfFree_152 ?_
        refine lv_iload hx hb dX3_takeIfFree_155 (lv_at hl 3 rfl) ?_
        refine lv_iload_n hx hb dX3_takeIfFree_157 rfl (lv_at hl 1 rfl) ?_
        have hv158 := hw.1
        replace hw := hw.2
        refine pt_iast F hP hD hS (pt_3t hk0) hv158 dX3_takeIfFree_158 (fun M_158 H locs eM_158 hP hS => ?_)
        replace hw := hw M_158 eM_158
        refine lv_aload_n hx hb dX3_takeIfFree_159 rfl (lv_at hl 0 rfl) ?_
        refine lv_iload hx hb dX3_takeIfFree_160 (lv_at hl 3 rfl) ?_
        refine lv_iconst (v := 1) hx hb dX3_takeIfFree_162 (by decide) ?_
        refine lv_iadd hx hb dX3_takeIfFree_163 ?_
        refine pt_put F hP hD hS (pt_c3 _ hk0) (pt_l3 hk0) inX3 tyX3 tyX3_ok nmX3 rfl 10 (by decide) kw_306 rfl rfl rfl rfl (Nat.le_of_ble_eq_true rfl) (pt_c3 _ hk0) dX3_takeIfFree_164 (fun M_164 H locs eM_164 hP hS => ?_)
        replace hw := hw M_164 eM_164
        exact W.vret hx hb hr (fun t ht hW => ⟨⟨M_164, rfl, hw, by unfold pt_B; rw [ht]; exact hP⟩, hS.F ht⟩) hS.2.2 dX3_takeIfFree_167
      · replace hw := hw.2 hc101
        refine lv_aload_n hx hb dX3_takeIfFree_104 rfl (lv_at hl 0 rfl) ?_
        refine lv_aload_n hx hb dX3_takeIfFree_105 rfl (lv_at hl 0 rfl) ?_
        refine pt_get F hP (pt_c3 _ hk0) (pt_l3 hk0) inX3 rfl 0 (by decide) kw_289 rfl rfl dX3_takeIfFree_106 ?_
        refine pt_get F hP (pt_c1 _ pt_k1) (pt_l1 pt_k1) inX1 rfl 1 (by decide) kw_227 rfl rfl dX3_takeIfFree_109 ?_
        refine lv_aload_n hx hb dX3_takeIfFree_112 rfl (lv_at hl 0 rfl) ?_
        refine pt_get F hP (pt_c3 _ hk0) (pt_l3 hk0) inX3 rfl 9 (by decide) kw_305 rfl rfl dX3_takeIfFree_113 ?_
        refine lv_iload hx hb dX3_takeIfFree_116 (lv_at hl 4 rfl) ?_
        have hv118 := hw.1
        replace hw := hw.2
        refine pt_iald F hP (pt_3t hk0) hv118 dX3_takeIfFree_118 ?_
        have hv119 := hw.1
        replace hw := hw.2
        refine pt_aldt F hP hv119 dX3_takeIfFree_119 ?_
        refine pt_calli (pt_runV (n := 1) (As := [.ref (ad (pt_t (M (k0 + 7) (Int32.toNatClampNeg x5))))]) (rest := []) F hP (pt_c3 _ hk0) (pt_l3 hk0) rfl (mtX3_leftBy l D cA ad hI _ k0 hk0 (pt_t (M (k0 + 7) (Int32.toNatClampNeg x5))) (pt_kt hv119) M _ hw) kw_793 kw_790 kw_57 kw_792 kw_15 ⟨by decide, by decide, by decide +kernel⟩ ⟨rfl, rfl, Nat.le_of_ble_eq_true rfl, Nat.le_of_ble_eq_true rfl⟩ rfl hl.1 rfl (Nat.le_of_ble_eq_true rfl) dX3_takeIfFree_120 ⟨Nat.zero_le _, Nat.zero_le _⟩) hS (fun _ h => h) (fun r_120 M_120 H locs hw hP hS _ _ => ?_)
        refine lv_iload_n hx hb dX3_takeIfFree_123 rfl (lv_at hl 2 rfl) ?_
        refine lv_iand hx hb dX3_takeIfFree_124 ?_
        refine lv_if_ne (tgt := 145) hx hb dX3_takeIfFree_125 (by decide) (fun hc125 => ?_) (fun hc125 => ?_)
        · replace hw := hw.1 hc125
          exact J145 x3 x4 x5 M_120 _ _ _ hw hP hS (lv_sub hl [0, 1, 2, 3, 4] rfl)
        · replace hw := hw.2 hc125
          refine lv_aload_n hx hb dX3_takeIfFree_128 rfl (lv_at hl 0 rfl) ?_
          refine pt_get F hP (pt_c3 _ hk0) (pt_l3 hk0) inX3 rfl 9 (by decide) kw_305 rfl rfl dX3_takeIfFree_129 ?_
          refine lv_iload hx hb dX3_takeIfFree_132 (lv_at hl 3 rfl) ?_
          refine lv_aload_n hx hb dX3_takeIfFree_134 rfl (lv_at hl 0 rfl) ?_
          refine pt_get F hP (pt_c3 _ hk0) (pt_l3 hk0) inX3 rfl 9 (by decide) kw_305 rfl rfl dX3_takeIfFree_135 ?_
          refine lv_iload hx hb dX3_takeIfFree_138 (lv_at hl 4 rfl) ?_
          have hv140 := hw.1
          replace hw := hw.2
          refine pt_iald F hP (pt_3t hk0) hv140 dX3_takeIfFree_140 ?_
          have hv141 := hw.1
          replace hw := hw.2
          refine pt_iast F hP hD hS (pt_3t hk0) hv141 dX3_takeIfFree_141 (fun M_141 H locs eM_141 hP hS => ?_)
          replace hw := hw M_141 eM_141
          obtain ⟨x4_142, ex4_142⟩ : ∃ y : Int32, y = x4 + 1 := ⟨_, rfl⟩
          replace hw := hw x4_142 ex4_142
          refine lv_iinc (v := x4_142) (lv' := [(4, .int x4_142), (0, .ref (ad k0)), (1, .int p1), (3, .int x3), (5, .int x5)]) hx hb dX3_takeIfFree_142 hl (k := 3) rfl (by rw [ex4_142]; rfl) (by decide) rfl (fun ls hl => ?_)
          exact J145 x3 x4_142 x5 M_141 _ _ _ hw hP hS (lv_sub hl [1, 2, 3, 0, 4] rfl)
  have L19 : ∀ (n19 : Nat) (q2 : Nat) (hq2 : pt_kd q2 = 6) (x3 : Int32) (x4 : Int32) (M : pt_M) (H : Heap) (locs : List Loc) (ls : Array Slot), lpX3_takeIfFree_19 k0 p1 Q n19 q2 x3 x4 M → va_P D pt_cl (pt_W cA ad M) H → va_S (pt_fr ad s.heap.size) s.heap H locs → lv_has ls 6 [(0, .ref (ad k0)), (1, .int p1), (2, .ref (ad q2)), (3, .int x3), (4, .int x4)] → W p l e (headSpec (Cond.code yX3_takeIfFree cX3_takeIfFree 6 none :: lw_all) ({ frames := 1, cells := 0, slots := 0, locals := 21 } : Room)).room s m ([.ref (ad k0), .int p1] : List Value).toArray below meth c H locs 0 0 (MQ below (va_Qv Q (pt_B D cA ad) (pt_fr ad s.heap.size)) ([.ref (ad k0), .int p1] : List Value).toArray s 0 0 (pt_fr ad s.heap.size)) (F0 m 19 ls []) := by
    intro n19
    induction n19 with
    | zero => intro q2 hq2 x3 x4 M H locs ls hw; exact hw.elim
    | succ n19 ih19 =>
      have J83 : ∀ (q2 : Nat) (hq2 : pt_kd q2 = 6) (x3 : Int32) (x4 : Int32) (M : pt_M) (H : Heap) (locs : List Loc) (ls : Array Slot), wjX3_takeIfFree_83 k0 p1 Q (lpX3_takeIfFree_19 k0 p1 Q n19) q2 x3 x4 M → va_P D pt_cl (pt_W cA ad M) H → va_S (pt_fr ad s.heap.size) s.heap H locs → lv_has ls 6 [(0, .ref (ad k0)), (1, .int p1), (2, .ref (ad q2)), (3, .int x3), (4, .int x4)] → W p l e (headSpec (Cond.code yX3_takeIfFree cX3_takeIfFree 6 none :: lw_all) ({ frames := 1, cells := 0, slots := 0, locals := 21 } : Room)).room s m ([.ref (ad k0), .int p1] : List Value).toArray below meth c H locs 0 0 (MQ below (va_Qv Q (pt_B D cA ad) (pt_fr ad s.heap.size)) ([.ref (ad k0), .int p1] : List Value).toArray s 0 0 (pt_fr ad s.heap.size)) (F0 m 83 ls []) := by
        intro q2 hq2 x3 x4 M H locs ls hw hP hS hl
        unfold wjX3_takeIfFree_83 at hw
        obtain ⟨x4_83, ex4_83⟩ : ∃ y : Int32, y = x4 + 1 := ⟨_, rfl⟩
        replace hw := hw x4_83 ex4_83
        refine lv_iinc (v := x4_83) (lv' := [(4, .int x4_83), (0, .ref (ad k0)), (1, .int p1), (2, .ref (ad q2)), (3, .int x3)]) hx hb dX3_takeIfFree_83 hl (k := 4) rfl (by rw [ex4_83]; rfl) (by decide) rfl (fun ls hl => ?_)
        refine lv_goto (tgt := 19) hx hb dX3_takeIfFree_86 (by decide) ?_
        exact ih19 q2 hq2 x3 x4_83 M _ _ _ hw hP hS (lv_sub hl [1, 2, 3, 4, 0] rfl)
      intro q2 hq2 x3 x4 M H locs ls hw hP hS hl
      replace hw : lbX3_takeIfFree_19 k0 p1 Q (lpX3_takeIfFree_19 k0 p1 Q n19) q2 x3 x4 M := hw
      unfold lbX3_takeIfFree_19 at hw
      refine lv_iload hx hb dX3_takeIfFree_19 (lv_at hl 4 rfl) ?_
      refine lv_aload_n hx hb dX3_takeIfFree_21 rfl (lv_at hl 0 rfl) ?_
      refine pt_get F hP (pt_c3 _ hk0) (pt_l3 hk0) inX3 rfl 10 (by decide) kw_306 rfl rfl dX3_takeIfFree_22 ?_
      refine lv_icmp_ge (tgt := 89) hx hb dX3_takeIfFree_25 (by decide) (fun hc25 => ?_) (fun hc25 => ?_)
      · replace hw := hw.1 hc25
        refine lv_iconst (v := 0) hx hb dX3_takeIfFree_89 (by decide) ?_
        refine lv_istore (lv' := [(4, .int 0), (0, .ref (ad k0)), (1, .int p1), (2, .ref (ad q2)), (3, .int x3)]) hx hb dX3_takeIfFree_90 hl (by decide) rfl (fun ls hl => ?_)
        refine lv_iconst (v := 0) hx hb dX3_takeIfFree_92 (by decide) ?_
        refine lv_istore (lv' := [(5, .int 0), (4, .int 0), (0, .ref (ad k0)), (1, .int p1), (2, .ref (ad q2)), (3, .int x3)]) hx hb dX3_takeIfFree_93 hl (by decide) rfl (fun ls hl => ?_)
        obtain ⟨n_, hw⟩ := hw
        exact L95 n_ x3 0 0 M _ _ _ hw hP hS (lv_sub hl [2, 3, 5, 1, 0] rfl)
      · replace hw := hw.2 hc25
        refine lv_aload_n hx hb dX3_takeIfFree_28 rfl (lv_at hl 0 rfl) ?_
        refine pt_get F hP (pt_c3 _ hk0) (pt_l3 hk0) inX3 rfl 0 (by decide) kw_289 rfl rfl dX3_takeIfFree_29 ?_
        refine pt_get F hP (pt_c1 _ pt_k1) (pt_l1 pt_k1) inX1 rfl 1 (by decide) kw_227 rfl rfl dX3_takeIfFree_32 ?_
        refine lv_aload_n hx hb dX3_takeIfFree_35 rfl (lv_at hl 0 rfl) ?_
        refine pt_get F hP (pt_c3 _ hk0) (pt_l3 hk0) inX3 rfl 9 (by decide) kw_305 rfl rfl dX3_takeIfFree_36 ?_
        refine lv_iload hx hb dX3_takeIfFree_39 (lv_at hl 4 rfl) ?_
        have hv41 := hw.1
        replace hw := hw.2
        refine pt_iald F hP (pt_3t hk0) hv41 dX3_takeIfFree_41 ?_
        have hv42 := hw.1
        replace hw := hw.2
        refine pt_aldt F hP hv42 dX3_takeIfFree_42 ?_
        refine lv_astore (lv' := [(5, .ref (ad (pt_t (M (k0 + 7) (Int32.toNatClampNeg x4))))), (0, .ref (ad k0)), (1, .int p1), (2, .ref (ad q2)), (3, .int x3), (4, .int x4)]) hx hb dX3_takeIfFree_43 hl (by decide) rfl (fun ls hl => ?_)
        refine lv_aload_n hx hb dX3_takeIfFree_45 rfl (lv_at hl 1 rfl) ?_
        refine lv_aload hx hb dX3_takeIfFree_46 (lv_at hl 0 rfl) ?_
        refine pt_calli (pt_runV (n := 1) (As := [.ref (ad (pt_t (M (k0 + 7) (Int32.toNatClampNeg x4))))]) (rest := []) F hP (pt_c3 _ hk0) (pt_l3 hk0) rfl (mtX3_leftBy l D cA ad hI _ k0 hk0 (pt_t (M (k0 + 7) (Int32.toNatClampNeg x4))) (pt_kt hv42) M _ hw) kw_793 kw_790 kw_57 kw_792 kw_15 ⟨by decide, by decide, by decide +kernel⟩ ⟨rfl, rfl, Nat.le_of_ble_eq_true rfl, Nat.le_of_ble_eq_true rfl⟩ rfl hl.1 rfl (Nat.le_of_ble_eq_true rfl) dX3_takeIfFree_48 ⟨Nat.zero_le _, Nat.zero_le _⟩) hS (fun _ h => h) (fun r_48 M_48 H locs hw hP hS _ _ => ?_)
        refine lv_iload_n hx hb dX3_takeIfFree_51 rfl (lv_at hl 4 rfl) ?_
        refine lv_iand hx hb dX3_takeIfFree_52 ?_
        refine lv_if_eq (tgt := 83) hx hb dX3_takeIfFree_53 (by decide) (fun hc53 => ?_) (fun hc53 => ?_)
        · replace hw := hw.1 hc53
          exact J83 q2 hq2 x3 x4 M_48 _ _ _ hw hP hS (lv_sub hl [1, 2, 3, 4, 5] rfl)
        · replace hw := hw.2 hc53
          refine lv_aload_n hx hb dX3_takeIfFree_56 rfl (lv_at hl 1 rfl) ?_
          refine pt_get F hP (pt_c3 _ hk0) (pt_l3 hk0) inX3 rfl 0 (by decide) kw_289 rfl rfl dX3_takeIfFree_57 ?_
          refine pt_get F hP (pt_c1 _ pt_k1) (pt_l1 pt_k1) inX1 rfl 0 (by decide) kw_224 rfl rfl dX3_takeIfFree_60 ?_
          refine lv_aload hx hb dX3_takeIfFree_63 (lv_at hl 0 rfl) ?_
          refine pt_get F hP (pt_c6 _ (pt_kt hv42)) (pt_l6 (pt_kt hv42)) inX6 rfl 1 (by decide) kw_186 rfl rfl dX3_takeIfFree_65 ?_
          have hv68 := hw.1
          replace hw := hw.2
          refine pt_alds F hP hv68 dX3_takeIfFree_68 ?_
          refine pt_get F hP (pt_c5 _ (pt_ks hv68)) (pt_l5 (pt_ks hv68)) inX5 rfl 7 (by decide) kw_153 rfl rfl dX3_takeIfFree_69 ?_
          refine lv_aload_n hx hb dX3_takeIfFree_72 rfl (lv_at hl 3 rfl) ?_
          refine pt_get F hP (pt_c6 _ hq2) (pt_l6 hq2) inX6 rfl 1 (by decide) kw_186 rfl rfl dX3_takeIfFree_73 ?_
          refine pt_calli (pt_runSN (n := 2) (As := [.int (M_48 (pt_s (M_48 (pt_t (M (k0 + 7) (Int32.toNatClampNeg x4))) 1)) 7), .int (M_48 q2 1)]) (rest := []) F hP (mtX7_has l D cA ad hI _ (M_48 (pt_s (M_48 (pt_t (M (k0 + 7) (Int32.toNatClampNeg x4))) 1)) 7) (M_48 q2 1) M_48 _ hw) kw_449 kw_724 kw_52 kw_448 ⟨by decide, by decide, by decide +kernel⟩ ⟨rfl, rfl, Nat.le_of_ble_eq_true rfl, Nat.le_of_ble_eq_true rfl⟩ rfl hl.1 rfl (Nat.le_of_ble_eq_true rfl) dX3_takeIfFree_76 ⟨Nat.zero_le _, Nat.zero_le _⟩) hS (fun _ h => h) (fun r_76 M_76 H locs hw hP hS _ _ => ?_)
          refine lv_if_ne (tgt := 83) hx hb dX3_takeIfFree_79 (by decide) (fun hc79 => ?_) (fun hc79 => ?_)
          · replace hw := hw.1 hc79
            exact J83 q2 hq2 x3 x4 M_76 _ _ _ hw hP hS (lv_sub hl [1, 2, 3, 4, 5] rfl)
          · replace hw := hw.2 hc79
            exact W.vret hx hb hr (fun t ht hW => ⟨⟨M_76, rfl, hw, by unfold pt_B; rw [ht]; exact hP⟩, hS.F ht⟩) hS.2.2 dX3_takeIfFree_82
  unfold wpX3_takeIfFree at hw
  refine lv_aload_n hx hb dX3_takeIfFree_0 rfl (lv_at hl 0 rfl) ?_
  refine pt_get F hP (pt_c3 _ hk0) (pt_l3 hk0) inX3 rfl 0 (by decide) kw_289 rfl rfl dX3_takeIfFree_1 ?_
  refine pt_get F hP (pt_c1 _ pt_k1) (pt_l1 pt_k1) inX1 rfl 1 (by decide) kw_227 rfl rfl dX3_takeIfFree_4 ?_
  refine lv_iload_n hx hb dX3_takeIfFree_7 rfl (lv_at hl 1 rfl) ?_
  have hv8 := hw.1
  replace hw := hw.2
  refine pt_aldt F hP hv8 dX3_takeIfFree_8 ?_
  refine lv_astore_n (lv' := [(2, .ref (ad (pt_t p1))), (0, .ref (ad k0)), (1, .int p1)]) hx hb dX3_takeIfFree_9 rfl hl (by decide) rfl (fun ls hl => ?_)
  refine lv_aload_n hx hb dX3_takeIfFree_10 rfl (lv_at hl 1 rfl) ?_
  refine lv_aload_n hx hb dX3_takeIfFree_11 rfl (lv_at hl 0 rfl) ?_
  refine pt_calli (pt_runV (n := 1) (As := [.ref (ad (pt_t p1))]) (rest := []) F hP (pt_c3 _ hk0) (pt_l3 hk0) rfl (mtX3_leftBy l D cA ad hI _ k0 hk0 (pt_t p1) (pt_kt hv8) M _ hw) kw_793 kw_790 kw_57 kw_792 kw_15 ⟨by decide, by decide, by decide +kernel⟩ ⟨rfl, rfl, Nat.le_of_ble_eq_true rfl, Nat.le_of_ble_eq_true rfl⟩ rfl hl.1 rfl (Nat.le_of_ble_eq_true rfl) dX3_takeIfFree_12 ⟨Nat.zero_le _, Nat.zero_le _⟩) hS (fun _ h => h) (fun r_12 M_12 H locs hw hP hS _ _ => ?_)
  refine lv_istore_n (lv' := [(3, .int r_12), (2, .ref (ad (pt_t p1))), (0, .ref (ad k0)), (1, .int p1)]) hx hb dX3_takeIfFree_15 rfl hl (by decide) rfl (fun ls hl => ?_)
  refine lv_iconst (v := 0) hx hb dX3_takeIfFree_16 (by decide) ?_
  refine lv_istore (lv' := [(4, .int 0), (3, .int r_12), (2, .ref (ad (pt_t p1))), (0, .ref (ad k0)), (1, .int p1)]) hx hb dX3_takeIfFree_17 hl (by decide) rfl (fun ls hl => ?_)
  obtain ⟨n_, hw⟩ := hw
  exact L19 n_ (pt_t p1) (pt_kt hv8) r_12 0 M_12 _ _ _ hw hP hS (lv_sub hl [3, 4, 2, 1, 0] rfl)
