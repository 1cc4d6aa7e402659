-- ===== X3_choose
def wjX3_choose_89 (k0 : Nat) (p1 : Int32) (Q : pt_M → Prop) (R26 : Int32 → Int32 → Int32 → pt_M → Prop) (x2 : Int32) (x3 : Int32) (x4 : Int32) (M : pt_M) : Prop :=
  ∀ x4_89 : Int32, x4_89 = x4 + 1 → R26 x2 x3 x4_89 M
def wjX3_choose_58 (k0 : Nat) (p1 : Int32) (Q : pt_M → Prop) (R26 : Int32 → Int32 → Int32 → pt_M → Prop) (x2 : Int32) (x3 : Int32) (x4 : Int32) (xs0 : Int32) (M : pt_M) : Prop :=
  (xs0 = (-1) → wjX3_choose_89 k0 p1 Q R26 x2 x3 x4 M) ∧ (¬ xs0 = (-1) → wpX7_has x2 xs0 M (fun (r_69 : Int32) (M_69 : pt_M) => (¬ r_69 = 0 → wjX3_choose_89 k0 p1 Q R26 x2 x3 x4 M_69) ∧ (r_69 = 0 → wpX7_setOf xs0 M_69 (fun (r_78 : Int32) (M_78 : pt_M) => ∀ x2_82 : Int32, x2_82 = (x2 ||| r_78) → wpX3_takeIfFree k0 xs0 M_78 (fun (M_86 : pt_M) => wjX3_choose_89 k0 p1 Q R26 x2_82 x3 x4 M_86)))))
def lbX3_choose_26 (k0 : Nat) (p1 : Int32) (Q : pt_M → Prop)  (R26 : Int32 → Int32 → Int32 → pt_M → Prop) (x2 : Int32) (x3 : Int32) (x4 : Int32) (M : pt_M) : Prop :=
  ((M 1 3) ≤ x4 → Q M) ∧ (¬ (M 1 3) ≤ x4 → wpX7_has x3 x4 M (fun (r_41 : Int32) (M_41 : pt_M) => (r_41 = 0 → wjX3_choose_58 k0 p1 Q R26 x2 x3 x4 (-1) M_41) ∧ (¬ r_41 = 0 → wpX3_nearestOpen k0 x4 p1 M_41 (fun (r_51 : Int32) (M_51 : pt_M) => wjX3_choose_58 k0 p1 Q R26 x2 x3 x4 r_51 M_51))))
def lpX3_choose_26 (k0 : Nat) (p1 : Int32) (Q : pt_M → Prop)  : Nat → Int32 → Int32 → Int32 → pt_M → Prop
  | 0 => fun _ _ _ _ => False
  | n + 1 => fun x2 x3 x4 M => lbX3_choose_26 k0 p1 Q (lpX3_choose_26 k0 p1 Q n) x2 x3 x4 M
def wpX3_choose (k0 : Nat) (p1 : Int32) (M : pt_M) (Q : pt_M → Prop) : Prop :=
  ∀ M_2 : pt_M, M_2 = pt_st M k0 10 0 → ∀ x3_22 : Int32, x3_22 = ((M_2 1 5) &&& (M_2 (k0 + 1) 3)) → ∃ n : Nat, lpX3_choose_26 k0 p1 Q n 0 x3_22 0 M_2
set_option maxHeartbeats 4000000 in
set_option maxRecDepth 100000 in
theorem mtX3_choose (l : Launch) (D : va_G) (cA : Nat → ClassId) (ad : Nat → Nat) (hI : pt_I ad) (sz : Nat) (k0 : Nat) (hk0 : pt_kd k0 = 3) (p1 : Int32) (M : pt_M) (Q : pt_M → Prop) (hw : wpX3_choose k0 p1 M Q) : Met l yX3_choose (Cond.code yX3_choose cX3_choose 6 none :: lw_all) ({ frames := 3, cells := 0, slots := 0, locals := 64 } : Room) (va_Pc [.ref (ad k0), .int p1] (pt_P D cA ad sz M)) (va_Qv Q (pt_B D cA ad) (pt_fr ad sz)) 0 0 (pt_fr ad sz) := by
  refine Met.ofW (cc := cX3_choose) (maxL := 6) (ret := none) (by decide) rfl ?_
  intro p e s m args below meth c s₁ B hml hv
  obtain ⟨rfl, hsz, hP, hK⟩ := hv
  have hx := B.exec
  have hb := B.bytes
  have hr := B.returns
  have hts0 := atoms_spec (ws := (Cond.code yX3_choose cX3_choose 6 none :: lw_all)) B.pre
  have hown : s.vm.findClass RX3 = some m.cls := findClass_of_methodNamed B.named
  have hlocks := B.notSynchronized
  subst hsz
  have F : pt_F p m c cX3_choose 6 s _ RX3 D cA := ⟨⟨hx, hb, hml, hown, fun w h => hts0 w (List.mem_cons_of_mem _ h)⟩, hK⟩
  have hD : ∀ M, va_D (pt_fr ad s.heap.size) (pt_W cA ad M) := pt_D hI (fun k h => Or.inl ⟨k, h, rfl⟩)
  have hS : va_S (pt_fr ad s.heap.size) s.heap s.heap [] := va_S.rf
  have hl := lv_entry ([.ref (ad k0), .int p1]) (n := 6) (Nat.le_of_ble_eq_true rfl)
  rw [lg_entry_eq]
  generalize (lg_sl ([.ref (ad k0), .int p1]) ++ List.replicate (6 - (lg_sl ([.ref (ad k0), .int p1])).length) Slot.unset).toArray = ls at hl ⊢
  have hl : lv_has ls 6 [(0, .ref (ad k0)), (1, .int p1)] := hl
  have L26 : ∀ (n26 : Nat) (x2 : Int32) (x3 : Int32) (x4 : Int32) (M : pt_M) (H : Heap) (locs : List Loc) (ls : Array Slot), lpX3_choose_26 k0 p1 Q n26 x2 x3 x4 M → va_P D pt_cl (pt_W cA ad M) H → va_S (pt_fr ad s.heap.size) s.heap H locs → lv_has ls 6 [(0, .ref (ad k0)), (1, .int p1), (2, .int x2), (3, .int x3), (4, .int x4)] → W p l e (headSpec (Cond.code yX3_choose cX3_choose 6 none :: lw_all) ({ frames := 3, cells := 0, slots := 0, locals := 64 } : Room)).room s m ([.ref (ad k0), .int p1] : List Value).toArray below meth c H locs 0 0 (MQ below (va_Qv Q (pt_B D cA ad) (pt_fr ad s.heap.size)) ([.ref (ad k0), .int p1] : List Value).toArray s 0 0 (pt_fr ad s.heap.size)) (F0 m 26 ls []) := by
    intro n26
    induction n26 with
    | zero => intro x2 x3 x4 M H locs ls hw; exact hw.elim
    | succ n26 ih26 =>
      have J89 : ∀ (x2 : Int32) (x3 : Int32) (x4 : Int32) (M : pt_M) (H : Heap) (locs : List Loc) (ls : Array Slot), wjX3_choose_89 k0 p1 Q (lpX3_choose_26 k0 p1 Q n26) x2 x3 x4 M → va_P D pt_cl (pt_W cA ad M) H → va_S (pt_fr ad s.heap.size) s.heap H locs → lv_has ls 6 [(0, .ref (ad k0)), (1, .int p1), (2, .int x2), (3, .int x3), (4, .int x4)] → W p l e (headSpec (Cond.code yX3_choose cX3_choose 6 none :: lw_all) ({ frames := 3, cells := 0, slots := 0, locals := 64 } : Room)).room s m ([.ref (ad k0), .int p1] : List Value).toArray below meth c H locs 0 0 (MQ below (va_Qv Q (pt_B D cA ad) (pt_fr ad s.heap.size)) ([.ref (ad k0), .int p1] : List Value).toArray s 0 0 (pt_fr ad s.heap.size)) (F0 m 89 ls []) := by
        intro x2 x3 x4 M H locs ls hw hP hS hl
        unfold wjX3_choose_89 at hw
        obtain ⟨x4_89, ex4_89⟩ : ∃ y : Int32, y = x4 + 1 := ⟨_, rfl⟩
        replace hw := hw x4_89 ex4_89
        refine lv_iinc (v := x4_89) (lv' := [(4, .int x4_89), (0, .ref (ad k0)), (1, .int p1), (2, .int x2), (3, .int x3)]) hx hb dX3_choose_89 hl (k := 4) rfl (by rw [ex4_89]; rfl) (by decide) rfl (fun ls hl => ?_)
        refine lv_goto (tgt := 26) hx hb dX3_choose_92 (by decide) ?_
        exact ih26 x2 x3 x4_89 M _ _ _ hw hP hS (lv_sub hl [1, 2, 3, 4, 0] rfl)
      have J58 : ∀ (x2 : Int32) (x3 : Int32) (x4 : Int32) (xs0 : Int32) (M : pt_M) (H : Heap) (locs : List Loc) (ls : Array Slot), wjX3_choose_58 k0 p1 Q (lpX3_choose_26 k0 p1 Q n26) x2 x3 x4 xs0 M → va_P D pt_cl (pt_W cA ad M) H → va_S (pt_fr ad s.heap.size) s.heap H locs → lv_has ls 6 [(0, .ref (ad k0)), (1, .int p1), (2, .int x2), (3, .int x3), (4, .int x4)] → W p l e (headSpec (Cond.code yX3_choose cX3_choose 6 none :: lw_all) ({ frames := 3, cells := 0, slots := 0, locals := 64 } : Room)).room s m ([.ref (ad k0), .int p1] : List Value).toArray below meth c H locs 0 0 (MQ below (va_Qv Q (pt_B D cA ad) (pt_fr ad s.heap.size)) ([.ref (ad k0), .int p1] : List Value).toArray s 0 0 (pt_fr ad s.heap.size)) (F0 m 58 ls [.int xs0]) := by
        intro x2 x3 x4 xs0 M H locs ls hw hP hS hl
        unfold wjX3_choose_58 at hw
        refine lv_istore (lv' := [(5, .int xs0), (0, .ref (ad k0)), (1, .int p1), (2, .int x2), (3, .int x3), (4, .int x4)]) hx hb dX3_choose_58 hl (by decide) rfl (fun ls hl => ?_)
        refine lv_iload hx hb dX3_choose_60 (lv_at hl 0 rfl) ?_
        refine lv_iconst (v := (-1)) hx hb dX3_choose_62 (by decide) ?_
        refine lv_icmp_eq (tgt := 89) hx hb dX3_choose_63 (by decide) (fun hc63 => ?_) (fun hc63 => ?_)
        · replace hw := hw.1 hc63
          exact J89 x2 x3 x4 M _ _ _ hw hP hS (lv_sub hl [1, 2, 3, 4, 5] rfl)
        · replace hw := hw.2 hc63
          refine lv_iload_n hx hb dX3_choose_66 rfl (lv_at hl 3 rfl) ?_
          refine lv_iload hx hb dX3_choose_67 (lv_at hl 0 rfl) ?_
          refine pt_calli (pt_runSN (n := 2) (As := [.int x2, .int xs0]) (rest := []) F hP (mtX7_has l D cA ad hI _ x2 xs0 M _ hw) kw_449 kw_724 kw_52 kw_448 ⟨by decide, by decide, by decide +kernel⟩ ⟨rfl, rfl, Nat.le_of_ble_eq_true rfl, Nat.le_of_ble_eq_true rfl⟩ rfl hl.1 rfl (Nat.le_of_ble_eq_true rfl) dX3_choose_69 ⟨Nat.zero_le _, Nat.zero_le _⟩) hS (fun _ h => h) (fun r_69 M_69 H locs hw hP hS _ _ => ?_)
          refine lv_if_ne (tgt := 89) hx hb dX3_choose_72 (by decide) (fun hc72 => ?_) (fun hc72 => ?_)
          · replace hw := hw.1 hc72
            exact J89 x2 x3 x4 M_69 _ _ _ hw hP hS (lv_sub hl [1, 2, 3, 4, 5] rfl)
          · replace hw := hw.2 hc72
            refine lv_iload_n hx hb dX3_choose_75 rfl (lv_at hl 3 rfl) ?_
            refine lv_iload hx hb dX3_choose_76 (lv_at hl 0 rfl) ?_
            refine pt_calli (pt_runSN (n := 1) (As := [.int xs0]) (rest := [.int x2]) F hP (mtX7_setOf l D cA ad hI _ xs0 M_69 _ hw) kw_103 kw_725 kw_52 kw_102 ⟨by decide, by decide, by decide +kernel⟩ ⟨rfl, rfl, Nat.le_of_ble_eq_true rfl, Nat.le_of_ble_eq_true rfl⟩ rfl hl.1 rfl (Nat.le_of_ble_eq_true rfl) dX3_choose_78 ⟨Nat.zero_le _, Nat.zero_le _⟩) hS (fun _ h => h) (fun r_78 M_78 H locs hw hP hS _ _ => ?_)
            refine lv_ior hx hb dX3_choose_81 ?_
            refine lv_topi (fun x2_82 ex2_82 => ?_)
            replace hw := hw x2_82 ex2_82
            refine lv_istore_n (lv' := [(2, .int x2_82), (5, .int xs0), (0, .ref (ad k0)), (1, .int p1), (3, .int x3), (4, .int x4)]) hx hb dX3_choose_82 rfl hl (by decide) rfl (fun ls hl => ?_)
            refine lv_aload_n hx hb dX3_choose_83 rfl (lv_at hl 2 rfl) ?_
            refine lv_iload hx hb dX3_choose_84 (lv_at hl 1 rfl) ?_
            refine pt_callv (pt_runV (n := 1) (As := [.int xs0]) (rest := []) F hP (pt_c3 _ hk0) (pt_l3 hk0) rfl (mtX3_takeIfFree l D cA ad hI _ k0 hk0 xs0 M_78 _ hw) kw_789 kw_786 kw_57 kw_788 kw_14 ⟨by decide, by decide, by decide +kernel⟩ ⟨rfl, rfl, Nat.le_of_ble_eq_true rfl, Nat.le_of_ble_eq_true rfl⟩ rfl hl.1 rfl (Nat.le_of_ble_eq_true rfl) dX3_choose_86 ⟨Nat.zero_le _, Nat.zero_le _⟩) hS (fun _ h => h) (fun M_86 H locs hw hP hS _ _ => ?_)
            exact J89 x2_82 x3 x4 M_86 _ _ _ hw hP hS (lv_sub hl [2, 3, 0, 4, 5] rfl)
      intro x2 x3 x4 M H locs ls hw hP hS hl
      replace hw : lbX3_choose_26 k0 p1 Q (lpX3_choose_26 k0 p1 Q n26) x2 x3 x4 M := hw
      unfold lbX3_choose_26 at hw
      refine lv_iload hx hb dX3_choose_26 (lv_at hl 4 rfl) ?_
      refine lv_aload_n hx hb dX3_choose_28 rfl (lv_at hl 0 rfl) ?_
      refine pt_get F hP (pt_c3 _ hk0) (pt_l3 hk0) inX3 rfl 0 (by decide) kw_289 rfl rfl dX3_choose_29 ?_
      refine pt_get F hP (pt_c1 _ pt_k1) (pt_l1 pt_k1) inX1 rfl 3 (by decide) kw_232 rfl rfl dX3_choose_32 ?_
      refine lv_icmp_ge (tgt := 95) hx hb dX3_choose_35 (by decide) (fun hc35 => ?_) (fun hc35 => ?_)
      · replace hw := hw.1 hc35
        exact W.vret hx hb hr (fun t ht hW => ⟨⟨M, rfl, hw, by unfold pt_B; rw [ht]; exact hP⟩, hS.F ht⟩) hS.2.2 dX3_choose_95
      · replace hw := hw.2 hc35
        refine lv_iload_n hx hb dX3_choose_38 rfl (lv_at hl 3 rfl) ?_
        refine lv_iload hx hb dX3_choose_39 (lv_at hl 4 rfl) ?_
        refine pt_calli (pt_runSN (n := 2) (As := [.int x3, .int x4]) (rest := []) F hP (mtX7_has l D cA ad hI _ x3 x4 M _ hw) kw_449 kw_724 kw_52 kw_448 ⟨by decide, by decide, by decide +kernel⟩ ⟨rfl, rfl, Nat.le_of_ble_eq_true rfl, Nat.le_of_ble_eq_true rfl⟩ rfl hl.1 rfl (Nat.le_of_ble_eq_true rfl) dX3_choose_41 ⟨Nat.zero_le _, Nat.zero_le _⟩) hS (fun _ h => h) (fun r_41 M_41 H locs hw hP hS _ _ => ?_)
        refine lv_if_eq (tgt := 57) hx hb dX3_choose_44 (by decide) (fun hc44 => ?_) (fun hc44 => ?_)
        · replace hw := hw.1 hc44
          refine lv_iconst (v := (-1)) hx hb dX3_choose_57 (by decide) ?_
          exact J58 x2 x3 x4 (-1) M_41 _ _ _ hw hP hS (lv_sub hl [0, 1, 2, 3, 4] rfl)
        · replace hw := hw.2 hc44
          refine lv_aload_n hx hb dX3_choose_47 rfl (lv_at hl 0 rfl) ?_
          refine lv_iload hx hb dX3_choose_48 (lv_at hl 4 rfl) ?_
          refine lv_iload_n hx hb dX3_choose_50 rfl (lv_at hl 1 rfl) ?_
          refine pt_calli (pt_runV (n := 2) (As := [.int x4, .int p1]) (rest := []) F hP (pt_c3 _ hk0) (pt_l3 hk0) rfl (mtX3_nearestOpen l D cA ad hI _ k0 hk0 x4 p1 M_41 _ hw) kw_781 kw_778 kw_57 kw_780 kw_13 ⟨by decide, by decide, by decide +kernel⟩ ⟨rfl, rfl, Nat.le_of_ble_eq_true rfl, Nat.le_of_ble_eq_true rfl⟩ rfl hl.1 rfl (Nat.le_of_ble_eq_true rfl) dX3_choose_51 ⟨Nat.zero_le _, Nat.zero_le _⟩) hS (fun _ h => h) (fun r_51 M_51 H locs hw hP hS _ _ => ?_)
          refine lv_goto (tgt := 58) hx hb dX3_choose_54 (by decide) ?_
          exact J58 x2 x3 x4 r_51 M_51 _ _ _ hw hP hS (lv_sub hl [0, 1, 2, 3, 4] rfl)
  unfold wpX3_choose at hw
  refine lv_aload_n hx hb dX3_choose_0 rfl (lv_at hl 0 rfl) ?_
  refine lv_iconst (v := 0) hx hb dX3_choose_1 (by decide) ?_
  refine pt_put F hP hD hS (pt_c3 _ hk0) (pt_l3 hk0) inX3 tyX3 tyX3_ok nmX3 rfl 10 (by decide) kw_306 rfl rfl rfl rfl (Nat.le_of_ble_eq_true rfl) (pt_c3 _ hk0) dX3_choose_2 (fun M_2 H locs eM_2 hP hS => ?_)
  replace hw := hw M_2 eM_2
  refine lv_iconst (v := 0) hx hb dX3_choose_5 (by decide) ?_
  refine lv_istore_n (lv' := [(2, .int 0), (0, .ref (ad k0)), (1, .int p1)]) hx hb dX3_choose_6 rfl hl (by decide) rfl (fun ls hl => ?_)
  refine lv_aload_n hx hb dX3_choose_7 rfl (lv_at hl 1 rfl) ?_
  refine pt_get F hP (pt_c3 _ hk0) (pt_l3 hk0) inX3 rfl 0 (by decide) kw_289 rfl rfl dX3_choose_8 ?_
  refine pt_get F hP (pt_c1 _ pt_k1) (pt_l1 pt_k1) inX1 rfl 5 (by decide) kw_237 rfl rfl dX3_choose_11 ?_
  refine lv_aload_n hx hb dX3_choose_14 rfl (lv_at hl 1 rfl) ?_
  refine pt_get F hP (pt_c3 _ hk0) (pt_l3 hk0) inX3 rfl 1 (by decide) kw_290 rfl rfl dX3_choose_15 ?_
  refine pt_get F hP (pt_c4 _ (pt_3s hk0)) (pt_l4 (pt_3s hk0)) inX4 rfl 3 (by decide) kw_278 rfl rfl dX3_choose_18 ?_
  refine lv_iand hx hb dX3_choose_21 ?_
  refine lv_topi (fun x3_22 ex3_22 => ?_)
  replace hw := hw x3_22 ex3_22
  refine lv_istore_n (lv' := [(3, .int x3_22), (2, .int 0), (0, .ref (ad k0)), (1, .int p1)]) hx hb dX3_choose_22 rfl hl (by decide) rfl (fun ls hl => ?_)
  refine lv_iconst (v := 0) hx hb dX3_choose_23 (by decide) ?_
  refine lv_istore (lv' := [(4, .int 0), (3, .int x3_22), (2, .int 0), (0, .ref (ad k0)), (1, .int p1)]) hx hb dX3_choose_24 hl (by decide) rfl (fun ls hl => ?_)
  obtain ⟨n_, hw⟩ := hw
  exact L26 n_ 0 x3_22 0 M_2 _ _ _ hw hP hS (lv_sub hl [3, 4, 2, 1, 0] rfl)
-- ===== X3_makeRecords
def wjX3_makeRecords_105 (k0 : Nat) (p1 : Int32) (Q : pt_M → Prop) (R2 : Int32 → pt_M → Prop) (x2 : Int32) (M : pt_M) : Prop :=
  ∀ x2_105 : Int32, x2_105 = x2 + 1 → R2 x2_105 M
def wjX3_makeRecords_84 (k0 : Nat) (p1 : Int32) (Q : pt_M → Prop) (R2 : Int32 → pt_M → Prop) (x2 : Int32) (xs0 : Int32) (M : pt_M) : Prop :=
  vp_in x2 20 ∧ ∀ M_104 : pt_M, M_104 = pt_st M ((k0 + 1) + 2) (Int32.toNatClampNeg x2) (xs0 &&& (M (k0 + 1) 3)) → wjX3_makeRecords_105 k0 p1 Q R2 x2 M_104
def lbX3_makeRecords_2 (k0 : Nat) (p1 : Int32) (Q : pt_M → Prop)  (R2 : Int32 → pt_M → Prop) (x2 : Int32) (M : pt_M) : Prop :=
  ((M 1 3) ≤ x2 → Q M) ∧ (¬ (M 1 3) ≤ x2 → vp_in x2 20 ∧ (wpX5_isMark (pt_s x2) M (fun (r_24 : Int32) (M_24 : pt_M) => (r_24 = 0 → wjX3_makeRecords_105 k0 p1 Q R2 x2 M_24) ∧ (¬ r_24 = 0 → wpX7_has p1 (M_24 (pt_s x2) 3) M_24 (fun (r_35 : Int32) (M_35 : pt_M) => (r_35 = 0 → wjX3_makeRecords_105 k0 p1 Q R2 x2 M_35) ∧ (¬ r_35 = 0 → vp_in (M_35 (pt_s x2) 3) 20 ∧ ((¬ (M_35 (pt_s x2) 2) = 3 → wjX3_makeRecords_84 k0 p1 Q R2 x2 ((M_35 (pt_s (M_35 (pt_s x2) 3)) 7) &&& (M_35 1 5)) M_35) ∧ ((M_35 (pt_s x2) 2) = 3 → wjX3_makeRecords_84 k0 p1 Q R2 x2 (M_35 (pt_s (M_35 (pt_s x2) 3)) 5) M_35))))))))
def lpX3_makeRecords_2 (k0 : Nat) (p1 : Int32) (Q : pt_M → Prop)  : Nat → Int32 → pt_M → Prop
  | 0 => fun _ _ => False
  | n + 1 => fun x2 M => lbX3_makeRecords_2 k0 p1 Q (lpX3_makeRecords_2 k0 p1 Q n) x2 M
def wpX3_makeRecords (k0 : Nat) (p1 : Int32) (M : pt_M) (Q : pt_M → Prop) : Prop :=
  ∃ n : Nat, lpX3_makeRecords_2 k0 p1 Q n 0 M
set_option maxHeartbeats 4000000 in
set_option maxRecDepth 100000 in
theorem mtX3_makeRecords (l : Launch) (D : va_G) (cA : Nat → ClassId) (ad : Nat → Nat) (hI : pt_I ad) (sz : Nat) (k0 : Nat) (hk0 : pt_kd k0 = 3) (p1 : Int32) (M : pt_M) (Q : pt_M → Prop) (hw : wpX3_makeRecords k0 p1 M Q) : Met l yX3_makeRecords (Cond.code yX3_makeRecords cX3_makeRecords 6 none :: lw_all) ({ frames := 1, cells := 0, slots := 0, locals := 21 } : Room) (va_Pc [.ref (ad k0), .int p1] (pt_P D cA ad sz M)) (va_Qv Q (pt_B D cA ad) (pt_fr ad sz)) 0 0 (pt_fr ad sz) := by
  refine Met.ofW (cc := cX3_makeRecords) (maxL := 6) (ret := none) (by decide) rfl ?_
  intro p e s m args below meth c s₁ B hml hv
  obtain ⟨rfl, hsz, hP, hK⟩ := hv
  have hx := B.exec
  have hb := B.bytes
  have hr := B.returns
  have hts0 := atoms_spec (ws := (Cond.code yX3_makeRecords cX3_makeRecords 6 none :: lw_all)) B.pre
  have hown : s.vm.findClass RX3 = some m.cls := findClass_of_methodNamed B.named
  have hlocks := B.notSynchronized
  subst hsz
  have F : pt_F p m c cX3_makeRecords 6 s _ RX3 D cA := ⟨⟨hx, hb, hml, hown, fun w h => hts0 w (List.mem_cons_of_mem _ h)⟩, hK⟩
  have hD : ∀ M, va_D (pt_fr ad s.heap.size) (pt_W cA ad M) := pt_D hI (fun k h => Or.inl ⟨k, h, rfl⟩)
  have hS : va_S (pt_fr ad s.heap.size) s.heap s.heap [] := va_S.rf
  have hl := lv_entry ([.ref (ad k0), .int p1]) (n := 6) (Nat.le_of_ble_eq_true rfl)
  rw [lg_entry_eq]
  generalize (lg_sl ([.ref (ad k0), .int p1]) ++ List.replicate (6 - (lg_sl ([.ref (ad k0), .int p1])).length) Slot.unset).toArray = ls at hl ⊢
  have hl : lv_has ls 6 [(0, .ref (ad k0)), (1, .int p1)] := hl
  have L2 : ∀ (n2 : Nat) (x2 : Int32) (M : pt_M) (H : Heap) (locs : List Loc) (ls : Array Slot), lpX3_makeRecords_2 k0 p1 Q n2 x2 M → va_P D pt_cl (pt_W cA ad M) H → va_S (pt_fr ad s.heap.size) s.heap H locs → lv_has ls 6 [(0, .ref (ad k0)), (1, .int p1), (2, .int x2)] → W p l e (headSpec (Cond.code yX3_makeRecords cX3_makeRecords 6 none :: lw_all) ({ frames := 1, cells := 0, slots := 0, locals := 21 } : Room)).room s m ([.ref (ad k0), .int p1] : List Value).toArray below meth c H locs 0 0 (MQ below (va_Qv Q (pt_B D cA ad) (pt_fr ad s.heap.size)) ([.ref (ad k0), .int p1] : List Value).toArray s 0 0 (pt_fr ad s.heap.size)) (F0 m 2 ls []) := by
    intro n2
    induction n2 with
    | zero => intro x2 M H locs ls hw; exact hw.elim
    | succ n2 ih2 =>
      have J105 : ∀ (x2 : Int32) (M : pt_M) (H : Heap) (locs : List Loc) (ls : Array Slot), wjX3_makeRecords_105 k0 p1 Q (lpX3_makeRecords_2 k0 p1 Q n2) x2 M → va_P D pt_cl (pt_W cA ad M) H → va_S (pt_fr ad s.heap.size) s.heap H locs → lv_has ls 6 [(0, .ref (ad k0)), (1, .int p1), (2, .int x2)] → W p l e (headSpec (Cond.code yX3_makeRecords cX3_makeRecords 6 none :: lw_all) ({ frames := 1, cells := 0, slots := 0, locals := 21 } : Room)).room s m ([.ref (ad k0), .int p1] : List Value).toArray below meth c H locs 0 0 (MQ below (va_Qv Q (pt_B D cA ad) (pt_fr ad s.heap.size)) ([.ref (ad k0), .int p1] : List Value).toArray s 0 0 (pt_fr ad s.heap.size)) (F0 m 105 ls []) := by
        intro x2 M H locs ls hw hP hS hl
        unfold wjX3_makeRecords_105 at hw
        obtain ⟨x2_105, ex2_105⟩ : ∃ y : Int32, y = x2 + 1 := ⟨_, rfl⟩
        replace hw := hw x2_105 ex2_105
        refine lv_iinc (v := x2_105) (lv' := [(2, .int x2_105), (0, .ref (ad k0)), (1, .int p1)]) hx hb dX3_makeRecords_105 hl (k := 2) rfl (by rw [ex2_105]; rfl) (by decide) rfl (fun ls hl => ?_)
        refine lv_goto (tgt := 2) hx hb dX3_makeRecords_108 (by decide) ?_
        exact ih2 x2_105 M _ _ _ hw hP hS (lv_sub hl [1, 2, 0] rfl)
      have J84 : ∀ (x2 : Int32) (xs0 : Int32) (M : pt_M) (H : Heap) (locs : List Loc) (ls : Array Slot), wjX3_makeRecords_84 k0 p1 Q (lpX3_makeRecords_2 k0 p1 Q n2) x2 xs0 M → va_P D pt_cl (pt_W cA ad M) H → va_S (pt_fr ad s.heap.size) s.heap H locs → lv_has ls 6 [(0, .ref (ad k0)), (1, .int p1), (2, .int x2)] → W p l e (headSpec (Cond.code yX3_makeRecords cX3_makeRecords 6 none :: lw_all) ({ frames := 1, cells := 0, slots := 0, locals := 21 } : Room)).room s m ([.ref (ad k0), .int p1] : List Value).toArray below meth c H locs 0 0 (MQ below (va_Qv Q (pt_B D cA ad) (pt_fr ad s.heap.size)) ([.ref (ad k0), .int p1] : List Value).toArray s 0 0 (pt_fr ad s.heap.size)) (F0 m 84 ls [.int xs0]) := by
        intro x2 xs0 M H locs ls hw hP hS hl
        unfold wjX3_makeRecords_84 at hw
        refine lv_istore (lv' := [(5, .int xs0), (0, .ref (ad k0)), (1, .int p1), (2, .int x2)]) hx hb dX3_makeRecords_84 hl (by decide) rfl (fun ls hl => ?_)
        refine lv_aload_n hx hb dX3_makeRecords_86 rfl (lv_at hl 1 rfl) ?_
        refine pt_get F hP (pt_c3 _ hk0) (pt_l3 hk0) inX3 rfl 1 (by decide) kw_290 rfl rfl dX3_makeRecords_87 ?_
        refine pt_get F hP (pt_c4 _ (pt_3s hk0)) (pt_l4 (pt_3s hk0)) inX4 rfl 1 (by decide) kw_271 rfl rfl dX3_makeRecords_90 ?_
        refine lv_iload_n hx hb dX3_makeRecords_93 rfl (lv_at hl 3 rfl) ?_
        refine lv_iload hx hb dX3_makeRecords_94 (lv_at hl 0 rfl) ?_
        refine lv_aload_n hx hb dX3_makeRecords_96 rfl (lv_at hl 1 rfl) ?_
        refine pt_get F hP (pt_c3 _ hk0) (pt_l3 hk0) inX3 rfl 1 (by decide) kw_290 rfl rfl dX3_makeRecords_97 ?_
        refine pt_get F hP (pt_c4 _ (pt_3s hk0)) (pt_l4 (pt_3s hk0)) inX4 rfl 3 (by decide) kw_278 rfl rfl dX3_makeRecords_100 ?_
        refine lv_iand hx hb dX3_makeRecords_103 ?_
        have hv104 := hw.1
        replace hw := hw.2
        refine pt_iast F hP hD hS (pt_4r (pt_3s hk0)) hv104 dX3_makeRecords_104 (fun M_104 H locs eM_104 hP hS => ?_)
        replace hw := hw M_104 eM_104
        exact J105 x2 M_104 _ _ _ hw hP hS (lv_sub hl [1, 2, 3] rfl)
      intro x2 M H locs ls hw hP hS hl
      replace hw : lbX3_makeRecords_2 k0 p1 Q (lpX3_makeRecords_2 k0 p1 Q n2) x2 M := hw
      unfold lbX3_makeRecords_2 at hw
      refine lv_iload_n hx hb dX3_makeRecords_2 rfl (lv_at hl 2 rfl) ?_
      refine lv_aload_n hx hb dX3_makeRecords_3 rfl (lv_at hl 0 rfl) ?_
      refine pt_get F hP (pt_c3 _ hk0) (pt_l3 hk0) inX3 rfl 0 (by decide) kw_289 rfl rfl dX3_makeRecords_4 ?_
      refine pt_get F hP (pt_c1 _ pt_k1) (pt_l1 pt_k1) inX1 rfl 3 (by decide) kw_232 rfl rfl dX3_makeRecords_7 ?_
      refine lv_icmp_ge (tgt := 111) hx hb dX3_makeRecords_10 (by decide) (fun hc10 => ?_) (fun hc10 => ?_)
      · replace hw := hw.1 hc10
        exact W.vret hx hb hr (fun t ht hW => ⟨⟨M, rfl, hw, by unfold pt_B; rw [ht]; exact hP⟩, hS.F ht⟩) hS.2.2 dX3_makeRecords_111
      · replace hw := hw.2 hc10
        refine lv_aload_n hx hb dX3_makeRecords_13 rfl (lv_at hl 0 rfl) ?_
        refine pt_get F hP (pt_c3 _ hk0) (pt_l3 hk0) inX3 rfl 0 (by decide) kw_289 rfl rfl dX3_makeRecords_14 ?_
        refine pt_get F hP (pt_c1 _ pt_k1) (pt_l1 pt_k1) inX1 rfl 0 (by decide) kw_224 rfl rfl dX3_makeRecords_17 ?_
        refine lv_iload_n hx hb dX3_makeRecords_20 rfl (lv_at hl 2 rfl) ?_
        have hv21 := hw.1
        replace hw := hw.2
        refine pt_alds F hP hv21 dX3_makeRecords_21 ?_
        refine lv_astore_n (lv' := [(3, .ref (ad (pt_s x2))), (0, .ref (ad k0)), (1, .int p1), (2, .int x2)]) hx hb dX3_makeRecords_22 rfl hl (by decide) rfl (fun ls hl => ?_)
        refine lv_aload_n hx hb dX3_makeRecords_23 rfl (lv_at hl 0 rfl) ?_
        refine pt_calli (pt_runV (n := 0) (As := []) (rest := []) F hP (pt_c5 _ (pt_ks hv21)) (pt_l5 (pt_ks hv21)) rfl (mtX5_isMark l D cA ad hI _ (pt_s x2) (pt_ks hv21) M _ hw) kw_567 kw_798 kw_54 kw_565 kw_566 ⟨by decide, by decide, by decide +kernel⟩ ⟨rfl, rfl, Nat.le_of_ble_eq_true rfl, Nat.le_of_ble_eq_true rfl⟩ rfl hl.1 rfl (Nat.le_of_ble_eq_true rfl) dX3_makeRecords_24 ⟨Nat.zero_le _, Nat.zero_le _⟩) hS (fun _ h => h) (fun r_24 M_24 H locs hw hP hS _ _ => ?_)
        refine lv_if_eq (tgt := 105) hx hb dX3_makeRecords_27 (by decide) (fun hc27 => ?_) (fun hc27 => ?_)
        · replace hw := hw.1 hc27
          exact J105 x2 M_24 _ _ _ hw hP hS (lv_sub hl [1, 2, 3] rfl)
        · replace hw := hw.2 hc27
          refine lv_iload_n hx hb dX3_makeRecords_30 rfl (lv_at hl 2 rfl) ?_
          refine lv_aload_n hx hb dX3_makeRecords_31 rfl (lv_at hl 0 rfl) ?_
          refine pt_get F hP (pt_c5 _ (pt_ks hv21)) (pt_l5 (pt_ks hv21)) inX5 rfl 3 (by decide) kw_142 rfl rfl dX3_makeRecords_32 ?_
          refine pt_calli (pt_runSN (n := 2) (As := [.int p1, .int (M_24 (pt_s x2) 3)]) (rest := []) F hP (mtX7_has l D cA ad hI _ p1 (M_24 (pt_s x2) 3) M_24 _ hw) kw_449 kw_724 kw_52 kw_448 ⟨by decide, by decide, by decide +kernel⟩ ⟨rfl, rfl, Nat.le_of_ble_eq_true rfl, Nat.le_of_ble_eq_true rfl⟩ rfl hl.1 rfl (Nat.le_of_ble_eq_true rfl) dX3_makeRecords_35 ⟨Nat.zero_le _, Nat.zero_le _⟩) hS (fun _ h => h) (fun r_35 M_35 H locs hw hP hS _ _ => ?_)
          refine lv_if_eq (tgt := 105) hx hb dX3_makeRecords_38 (by decide) (fun hc38 => ?_) (fun hc38 => ?_)
          · replace hw := hw.1 hc38
            exact J105 x2 M_35 _ _ _ hw hP hS (lv_sub hl [1, 2, 3] rfl)
          · replace hw := hw.2 hc38
            refine lv_aload_n hx hb dX3_makeRecords_41 rfl (lv_at hl 1 rfl) ?_
            refine pt_get F hP (pt_c3 _ hk0) (pt_l3 hk0) inX3 rfl 0 (by decide) kw_289 rfl rfl dX3_makeRecords_42 ?_
            refine pt_get F hP (pt_c1 _ pt_k1) (pt_l1 pt_k1) inX1 rfl 0 (by decide) kw_224 rfl rfl dX3_makeRecords_45 ?_
            refine lv_aload_n hx hb dX3_makeRecords_48 rfl (lv_at hl 0 rfl) ?_
            refine pt_get F hP (pt_c5 _ (pt_ks hv21)) (pt_l5 (pt_ks hv21)) inX5 rfl 3 (by decide) kw_142 rfl rfl dX3_makeRecords_49 ?_
            have hv52 := hw.1
            replace hw := hw.2
            refine pt_alds F hP hv52 dX3_makeRecords_52 ?_
            refine lv_astore (lv' := [(4, .ref (ad (pt_s (M_35 (pt_s x2) 3)))), (3, .ref (ad (pt_s x2))), (0, .ref (ad k0)), (1, .int p1), (2, .int x2)]) hx hb dX3_makeRecords_53 hl (by decide) rfl (fun ls hl => ?_)
            refine lv_aload_n hx hb dX3_makeRecords_55 rfl (lv_at hl 1 rfl) ?_
            refine pt_get F hP (pt_c5 _ (pt_ks hv21)) (pt_l5 (pt_ks hv21)) inX5 rfl 2 (by decide) kw_138 rfl rfl dX3_makeRecords_56 ?_
            refine lv_iconst (v := 3) hx hb dX3_makeRecords_59 (by decide) ?_
            refine lv_icmp_ne (tgt := 71) hx hb dX3_makeRecords_60 (by decide) (fun hc60 => ?_) (fun hc60 => ?_)
            · replace hw := hw.1 hc60
              refine lv_aload hx hb dX3_makeRecords_71 (lv_at hl 0 rfl) ?_
              refine pt_get F hP (pt_c5 _ (pt_ks hv52)) (pt_l5 (pt_ks hv52)) inX5 rfl 7 (by decide) kw_153 rfl rfl dX3_makeRecords_73 ?_
              refine lv_aload_n hx hb dX3_makeRecords_76 rfl (lv_at hl 2 rfl) ?_
              refine pt_get F hP (pt_c3 _ hk0) (pt_l3 hk0) inX3 rfl 0 (by decide) kw_289 rfl rfl dX3_makeRecords_77 ?_
              refine pt_get F hP (pt_c1 _ pt_k1) (pt_l1 pt_k1) inX1 rfl 5 (by decide) kw_237 rfl rfl dX3_makeRecords_80 ?_
              refine lv_iand hx hb dX3_makeRecords_83 ?_
              exact J84 x2 ((M_35 (pt_s (M_35 (pt_s x2) 3)) 7) &&& (M_35 1 5)) M_35 _ _ _ hw hP hS (lv_sub hl [2, 3, 4] rfl)
            · replace hw := hw.2 hc60
              refine lv_aload hx hb dX3_makeRecords_63 (lv_at hl 0 rfl) ?_
              refine pt_get F hP (pt_c5 _ (pt_ks hv52)) (pt_l5 (pt_ks hv52)) inX5 rfl 5 (by decide) kw_145 rfl rfl dX3_makeRecords_65 ?_
              refine lv_goto (tgt := 84) hx hb dX3_makeRecords_68 (by decide) ?_
              exact J84 x2 (M_35 (pt_s (M_35 (pt_s x2) 3)) 5) M_35 _ _ _ hw hP hS (lv_sub hl [2, 3, 4] rfl)
  unfold wpX3_makeRecords at hw
  refine lv_iconst (v := 0) hx hb dX3_makeRecords_0 (by decide) ?_
  refine lv_istore_n (lv' := [(2, .int 0), (0, .ref (ad k0)), (1, .int p1)]) hx hb dX3_makeRecords_1 rfl hl (by decide) rfl (fun ls hl => ?_)
  obtain ⟨n_, hw⟩ := hw
  exact L2 n_ 0 M _ _ _ hw hP hS (lv_sub hl [1, 2, 0] rfl)
-- ===== X3_act
def wjX3_act_80 (k0 : Nat) (k1 : Nat) (Q : pt_M → Prop)   (M : pt_M) : Prop :=
  Q M
def wpX3_act (k0 : Nat) (k1 : Nat) (M : pt_M) (Q : pt_M → Prop) : Prop :=
  ((M k1 0) = 1 → vp_in (M k1 1) 4 ∧ ∀ M_47 : pt_M, M_47 = pt_st M ((k0 + 1) + 3) (Int32.toNatClampNeg (M k1 1)) (M k1 2) → wjX3_act_80 k0 k1 Q M_47) ∧ (¬ (M k1 0) = 1 → ((M k1 0) = 2 → wpX4_add (k0 + 1) (M k1 1) (M k1 2) M (fun (M_63 : pt_M) => wjX3_act_80 k0 k1 Q M_63)) ∧ (¬ (M k1 0) = 2 → ((M k1 0) = 3 → wpX3_raise k0 (M k1 1) M (fun (M_74 : pt_M) => wjX3_act_80 k0 k1 Q M_74)) ∧ (¬ (M k1 0) = 3 → wjX3_act_80 k0 k1 Q M)))
set_option maxHeartbeats 4000000 in
set_option maxRecDepth 100000 in
theorem mtX3_act (l : Launch) (D : va_G) (cA : Nat → ClassId) (ad : Nat → Nat) (hI : pt_I ad) (sz : Nat) (k0 : Nat) (hk0 : pt_kd k0 = 3) (k1 : Nat) (hk1 : pt_kd k1 = 0) (M : pt_M) (Q : pt_M → Prop) (hw : wpX3_act k0 k1 M Q) : Met l yX3_act (Cond.code yX3_act cX3_act 2 none :: lw_all) ({ frames := 2, cells := 0, slots := 0, locals := 44 } : Room) (va_Pc [.ref (ad k0), .ref (ad k1)] (pt_P D cA ad sz M)) (va_Qv Q (pt_B D cA ad) (pt_fr ad sz)) 0 0 (pt_fr ad sz) := by
  refine Met.ofW (cc := cX3_act) (maxL := 2) (ret := none) (by decide) rfl ?_
  intro p e s m args below meth c s₁ B hml hv
  obtain ⟨rfl, hsz, hP, hK⟩ := hv
  have hx := B.exec
  have hb := B.bytes
  have hr := B.returns
  have hts0 := atoms_spec (ws := (Cond.code yX3_act cX3_act 2 none :: lw_all)) B.pre
  have hown : s.vm.findClass RX3 = some m.cls := findClass_of_methodNamed B.named
  have hlocks := B.notSynchronized
  subst hsz
  have F : pt_F p m c cX3_act 2 s _ RX3 D cA := ⟨⟨hx, hb, hml, hown, fun w h => hts0 w (List.mem_cons_of_mem _ h)⟩, hK⟩
  have hD : ∀ M, va_D (pt_fr ad s.heap.size) (pt_W cA ad M) := pt_D hI (fun k h => Or.inl ⟨k, h, rfl⟩)
  have hS : va_S (pt_fr ad s.heap.size) s.heap s.heap [] := va_S.rf
  have hl := lv_entry ([.ref (ad k0), .ref (ad k1)]) (n := 2) (Nat.le_of_ble_eq_true rfl)
  rw [lg_entry_eq]
  generalize (lg_sl ([.ref (ad k0), .ref (ad k1)]) ++ List.replicate (2 - (lg_sl ([.ref (ad k0), .ref (ad k1)])).length) Slot.unset).toArray = ls at hl ⊢
  have hl : lv_has ls 2 [(0, .ref (ad k0)), (1, .ref (ad k1))] := hl
  have J80 : ∀ (M : pt_M) (H : Heap) (locs : List Loc) (ls : Array Slot), wjX3_act_80 k0 k1 Q M → va_P D pt_cl (pt_W cA ad M) H → va_S (pt_fr ad s.heap.size) s.heap H locs → lv_has ls 2 [] → W p l e (headSpec (Cond.code yX3_act cX3_act 2 none :: lw_all) ({ frames := 2, cells := 0, slots := 0, locals := 44 } : Room)).room s m ([.ref (ad k0), .ref (ad k1)] : List Value).toArray below meth c H locs 0 0 (MQ below (va_Qv Q (pt_B D cA ad) (pt_fr ad s.heap.size)) ([.ref (ad k0), .ref (ad k1)] : List Value).toArray s 0 0 (pt_fr ad s.heap.size)) (F0 m 80 ls []) := by
    intro M H locs ls hw hP hS hl
    unfold wjX3_act_80 at hw
    exact W.vret hx hb hr (fun t ht hW => ⟨⟨M, rfl, hw, by unfold pt_B; rw [ht]; exact hP⟩, hS.F ht⟩) hS.2.2 dX3_act_80
  unfold wpX3_act at hw
  refine lv_aload_n hx hb dX3_act_0 rfl (lv_at hl 1 rfl) ?_
  refine pt_get F hP (pt_c0 _ hk1) (pt_l0 hk1) inX0 rfl 0 (by decide) kw_116 rfl rfl dX3_act_1 ?_
  by_cases hn4_0 : (M k1 0) = 1
  · replace hw := hw.1 hn4_0
    refine lv_tableIn (off := 28) (tgt := 32) hx hb dX3_act_4 (by rw [hn4_0]; decide) (by rw [hn4_0]; decide) (by rw [hn4_0]; rfl) (by decide) ?_
    refine lv_aload_n hx hb dX3_act_32 rfl (lv_at hl 0 rfl) ?_
    refine pt_get F hP (pt_c3 _ hk0) (pt_l3 hk0) inX3 rfl 1 (by decide) kw_290 rfl rfl dX3_act_33 ?_
    refine pt_get F hP (pt_c4 _ (pt_3s hk0)) (pt_l4 (pt_3s hk0)) inX4 rfl 2 (by decide) kw_274 rfl rfl dX3_act_36 ?_
    refine lv_aload_n hx hb dX3_act_39 rfl (lv_at hl 1 rfl) ?_
    refine pt_get F hP (pt_c0 _ hk1) (pt_l0 hk1) inX0 rfl 1 (by decide) kw_118 rfl rfl dX3_act_40 ?_
    refine lv_aload_n hx hb dX3_act_43 rfl (lv_at hl 1 rfl) ?_
    refine pt_get F hP (pt_c0 _ hk1) (pt_l0 hk1) inX0 rfl 2 (by decide) kw_120 rfl rfl dX3_act_44 ?_
    have hv47 := hw.1
    replace hw := hw.2
    refine pt_iast F hP hD hS (pt_4v (pt_3s hk0)) hv47 dX3_act_47 (fun M_47 H locs eM_47 hP hS => ?_)
    replace hw := hw M_47 eM_47
    refine lv_goto (tgt := 80) hx hb dX3_act_48 (by decide) ?_
    exact J80 M_47 _ _ _ hw hP hS (lv_sub hl [] rfl)
  · replace hw := hw.2 hn4_0
    by_cases hn4_1 : (M k1 0) = 2
    · replace hw := hw.1 hn4_1
      refine lv_tableIn (off := 47) (tgt := 51) hx hb dX3_act_4 (by rw [hn4_1]; decide) (by rw [hn4_1]; decide) (by rw [hn4_1]; rfl) (by decide) ?_
      refine lv_aload_n hx hb dX3_act_51 rfl (lv_at hl 0 rfl) ?_
      refine pt_get F hP (pt_c3 _ hk0) (pt_l3 hk0) inX3 rfl 1 (by decide) kw_290 rfl rfl dX3_act_52 ?_
      refine lv_aload_n hx hb dX3_act_55 rfl (lv_at hl 1 rfl) ?_
      refine pt_get F hP (pt_c0 _ hk1) (pt_l0 hk1) inX0 rfl 1 (by decide) kw_118 rfl rfl dX3_act_56 ?_
      refine lv_aload_n hx hb dX3_act_59 rfl (lv_at hl 1 rfl) ?_
      refine pt_get F hP (pt_c0 _ hk1) (pt_l0 hk1) inX0 rfl 2 (by decide) kw_120 rfl rfl dX3_act_60 ?_
      refine pt_callv (pt_runV (n := 2) (As := [.int (M k1 1), .int (M k1 2)]) (rest := []) F hP (pt_c4 _ (pt_3s hk0)) (pt_l4 (pt_3s hk0)) rfl (mtX4_add l D cA ad hI _ (k0 + 1) (pt_3s hk0) (M k1 1) (M k1 2) M _ hw) kw_733 kw_730 kw_58 kw_731 kw_732 ⟨by decide, by decide, by decide +kernel⟩ ⟨rfl, rfl, Nat.le_of_ble_eq_true rfl, Nat.le_of_ble_eq_true rfl⟩ rfl hl.1 rfl (Nat.le_of_ble_eq_true rfl) dX3_act_63 ⟨Nat.zero_le _, Nat.zero_le _⟩) hS (fun _ h => h) (fun M_63 H locs hw hP hS _ _ => ?_)
      refine lv_goto (tgt := 80) hx hb dX3_act_66 (by decide) ?_
      exact J80 M_63 _ _ _ hw hP hS (lv_sub hl [] rfl)
    · replace hw := hw.2 hn4_1
      by_cases hn4_2 : (M k1 0) = 3
      · replace hw := hw.1 hn4_2
        refine lv_tableIn (off := 65) (tgt := 69) hx hb dX3_act_4 (by rw [hn4_2]; decide) (by rw [hn4_2]; decide) (by rw [hn4_2]; rfl) (by decide) ?_
        refine lv_aload_n hx hb dX3_act_69 rfl (lv_at hl 0 rfl) ?_
        refine lv_aload_n hx hb dX3_act_70 rfl (lv_at hl 1 rfl) ?_
        refine pt_get F hP (pt_c0 _ hk1) (pt_l0 hk1) inX0 rfl 1 (by decide) kw_118 rfl rfl dX3_act_71 ?_
        refine pt_callv (pt_runV (n := 1) (As := [.int (M k1 1)]) (rest := []) F hP (pt_c3 _ hk0) (pt_l3 hk0) rfl (mtX3_raise l D cA ad hI _ k0 hk0 (M k1 1) M _ hw) kw_743 kw_740 kw_57 kw_742 kw_7 ⟨by decide, by decide, by decide +kernel⟩ ⟨rfl, rfl, Nat.le_of_ble_eq_true rfl, Nat.le_of_ble_eq_true rfl⟩ rfl hl.1 rfl (Nat.le_of_ble_eq_true rfl) dX3_act_74 ⟨Nat.zero_le _, Nat.zero_le _⟩) hS (fun _ h => h) (fun M_74 H locs hw hP hS _ _ => ?_)
        refine lv_goto (tgt := 80) hx hb dX3_act_77 (by decide) ?_
        exact J80 M_74 _ _ _ hw hP hS (lv_sub hl [] rfl)
      · replace hw := hw.2 hn4_2
        refine lv_tableOut (tgt := 80) hx hb dX3_act_4 (pt_out13 hn4_0 hn4_1 hn4_2) (by decide) ?_
        exact J80 M _ _ _ hw hP hS (lv_sub hl [] rfl)
-- ===== X3_leave
def wjX3_leave_66 (k0 : Nat) (p1 : Int32) (Q : pt_M → Prop) (R10 : Int32 → pt_M → Prop) (x2 : Int32) (M : pt_M) : Prop :=
  ∀ x2_66 : Int32, x2_66 = x2 + (-1) → R10 x2_66 M
def lbX3_leave_10 (k0 : Nat) (p1 : Int32) (Q : pt_M → Prop)  (R10 : Int32 → pt_M → Prop) (x2 : Int32) (M : pt_M) : Prop :=
  (x2 < 0 → Q M) ∧ (¬ x2 < 0 → wpX7_has p1 x2 M (fun (r_16 : Int32) (M_16 : pt_M) => (r_16 = 0 → wjX3_leave_66 k0 p1 Q R10 x2 M_16) ∧ (¬ r_16 = 0 → wpX7_setOf x2 M_16 (fun (r_31 : Int32) (M_31 : pt_M) => ∀ M_37 : pt_M, M_37 = pt_st M_31 (k0 + 1) 3 ((M_16 (k0 + 1) 3) &&& (r_31 ^^^ (-1))) → vp_in x2 20 ∧ ∀ M_49 : pt_M, M_49 = pt_st M_37 ((k0 + 1) + 1) (Int32.toNatClampNeg x2) (-1) → vp_in x2 20 ∧ (wpX3_act k0 ((pt_s x2) + 2) M_49 (fun (M_63 : pt_M) => wjX3_leave_66 k0 p1 Q R10 x2 M_63))))))
def lpX3_leave_10 (k0 : Nat) (p1 : Int32) (Q : pt_M → Prop)  : Nat → Int32 → pt_M → Prop
  | 0 => fun _ _ => False
  | n + 1 => fun x2 M => lbX3_leave_10 k0 p1 Q (lpX3_leave_10 k0 p1 Q n) x2 M
def wpX3_leave (k0 : Nat) (p1 : Int32) (M : pt_M) (Q : pt_M → Prop) : Prop :=
  ∀ x2_9 : Int32, x2_9 = ((M 1 3) - 1) → ∃ n : Nat, lpX3_leave_10 k0 p1 Q n x2_9 M
set_option maxHeartbeats 4000000 in
set_option maxRecDepth 100000 in
theorem mtX3_leave (l : Launch) (D : va_G) (cA : Nat → ClassId) (ad : Nat → Nat) (hI : pt_I ad) (sz : Nat) (k0 : Nat) (hk0 : pt_kd k0 = 3) (p1 : Int32) (M : pt_M) (Q : pt_M → Prop) (hw : wpX3_leave k0 p1 M Q) : Met l yX3_leave (Cond.code yX3_leave cX3_leave 3 none :: lw_all) ({ frames := 3, cells := 0, slots := 0, locals := 65 } : Room) (va_Pc [.ref (ad k0), .int p1] (pt_P D cA ad sz M)) (va_Qv Q (pt_B D cA ad) (pt_fr ad sz)) 0 0 (pt_fr ad sz) := by
  refine Met.ofW (cc := cX3_leave) (maxL := 3) (ret := none) (by decide) rfl ?_
  intro p e s m args below meth c s₁ B hml hv
  obtain ⟨rfl, hsz, hP, hK⟩ := hv
  have hx := B.exec
  have hb := B.bytes
  have hr := B.returns
  have hts0 := atoms_spec (ws := (Cond.code yX3_leave cX3_leave 3 none :: lw_all)) B.pre
  have hown : s.vm.findClass RX3 = some m.cls := findClass_of_methodNamed B.named
  have hlocks := B.notSynchronized
  subst hsz
  have F : pt_F p m c cX3_leave 3 s _ RX3 D cA := ⟨⟨hx, hb, hml, hown, fun w h => hts0 w (List.mem_cons_of_mem _ h)⟩, hK⟩
  have hD : ∀ M, va_D (pt_fr ad s.heap.size) (pt_W cA ad M) := pt_D hI (fun k h => Or.inl ⟨k, h, rfl⟩)
  have hS : va_S (pt_fr ad s.heap.size) s.heap s.heap [] := va_S.rf
  have hl := lv_entry ([.ref (ad k0), .int p1]) (n := 3) (Nat.le_of_ble_eq_true rfl)
  rw [lg_entry_eq]
  generalize (lg_sl ([.ref (ad k0), .int p1]) ++ List.replicate (3 - (lg_sl ([.ref (ad k0), .int p1])).length) Slot.unset).toArray = ls at hl ⊢
  have hl : lv_has ls 3 [(0, .ref (ad k0)), (1, .int p1)] := hl
  have L10 : ∀ (n10 : Nat) (x2 : Int32) (M : pt_M) (H : Heap) (locs : List Loc) (ls : Array Slot), lpX3_leave_10 k0 p1 Q n10 x2 M → va_P D pt_cl (pt_W cA ad M) H → va_S (pt_fr ad s.heap.size) s.heap H locs → lv_has ls 3 [(0, .ref (ad k0)), (1, .int p1), (2, .int x2)] → W p l e (headSpec (Cond.code yX3_leave cX3_leave 3 none :: lw_all) ({ frames := 3, cells := 0, slots := 0, locals := 65 } : Room)).room s m ([.ref (ad k0), .int p1] : List Value).toArray below meth c H locs 0 0 (MQ below (va_Qv Q (pt_B D cA ad) (pt_fr ad s.heap.size)) ([.ref (ad k0), .int p1] : List Value).toArray s 0 0 (pt_fr ad s.heap.size)) (F0 m 10 ls []) := by
    intro n10
    induction n10 with
    | zero => intro x2 M H locs ls hw; exact hw.elim
    | succ n10 ih10 =>
      have J66 : ∀ (x2 : Int32) (M : pt_M) (H : Heap) (locs : List Loc) (ls : Array Slot), wjX3_leave_66 k0 p1 Q (lpX3_leave_10 k0 p1 Q n10) x2 M → va_P D pt_cl (pt_W cA ad M) H → va_S (pt_fr ad s.heap.size) s.heap H locs → lv_has ls 3 [(0, .ref (ad k0)), (1, .int p1), (2, .int x2)] → W p l e (headSpec (Cond.code yX3_leave cX3_leave 3 none :: lw_all) ({ frames := 3, cells := 0, slots := 0, locals := 65 } : Room)).room s m ([.ref (ad k0), .int p1] : List Value).toArray below meth c H locs 0 0 (MQ below (va_Qv Q (pt_B D cA ad) (pt_fr ad s.heap.size)) ([.ref (ad k0), .int p1] : List Value).toArray s 0 0 (pt_fr ad s.heap.size)) (F0 m 66 ls []) := by
        intro x2 M H locs ls hw hP hS hl
        unfold wjX3_leave_66 at hw
        obtain ⟨x2_66, ex2_66⟩ : ∃ y : Int32, y = x2 + (-1) := ⟨_, rfl⟩
        replace hw := hw x2_66 ex2_66
        refine lv_iinc (v := x2_66) (lv' := [(2, .int x2_66), (0, .ref (ad k0)), (1, .int p1)]) hx hb dX3_leave_66 hl (k := 2) rfl (by rw [ex2_66]; rfl) (by decide) rfl (fun ls hl => ?_)
        refine lv_goto (tgt := 10) hx hb dX3_leave_69 (by decide) ?_
        exact ih10 x2_66 M _ _ _ hw hP hS (lv_sub hl [1, 2, 0] rfl)
      intro x2 M H locs ls hw hP hS hl
      replace hw : lbX3_leave_10 k0 p1 Q (lpX3_leave_10 k0 p1 Q n10) x2 M := hw
      unfold lbX3_leave_10 at hw
      refine lv_iload_n hx hb dX3_leave_10 rfl (lv_at hl 2 rfl) ?_
      refine lv_if_lt (tgt := 72) hx hb dX3_leave_11 (by decide) (fun hc11 => ?_) (fun hc11 => ?_)
      · replace hw := hw.1 hc11
        exact W.vret hx hb hr (fun t ht hW => ⟨⟨M, rfl, hw, by unfold pt_B; rw [ht]; exact hP⟩, hS.F ht⟩) hS.2.2 dX3_leave_72
      · replace hw := hw.2 hc11
        refine lv_iload_n hx hb dX3_leave_14 rfl (lv_at hl 1 rfl) ?_
        refine lv_iload_n hx hb dX3_leave_15 rfl (lv_at hl 2 rfl) ?_
        refine pt_calli (pt_runSN (n := 2) (As := [.int p1, .int x2]) (rest := []) F hP (mtX7_has l D cA ad hI _ p1 x2 M _ hw) kw_449 kw_724 kw_52 kw_448 ⟨by decide, by decide, by decide +kernel⟩ ⟨rfl, rfl, Nat.le_of_ble_eq_true rfl, Nat.le_of_ble_eq_true rfl⟩ rfl hl.1 rfl (Nat.le_of_ble_eq_true rfl) dX3_leave_16 ⟨Nat.zero_le _, Nat.zero_le _⟩) hS (fun _ h => h) (fun r_16 M_16 H locs hw hP hS _ _ => ?_)
        refine lv_if_eq (tgt := 66) hx hb dX3_leave_19 (by decide) (fun hc19 => ?_) (fun hc19 => ?_)
        · replace hw := hw.1 hc19
          exact J66 x2 M_16 _ _ _ hw hP hS (lv_sub hl [0, 1, 2] rfl)
        · replace hw := hw.2 hc19
          refine lv_aload_n hx hb dX3_leave_22 rfl (lv_at hl 0 rfl) ?_
          refine pt_get F hP (pt_c3 _ hk0) (pt_l3 hk0) inX3 rfl 1 (by decide) kw_290 rfl rfl dX3_leave_23 ?_
          refine lv_dup hx hb dX3_leave_26 rfl ?_
          refine pt_get F hP (pt_c4 _ (pt_3s hk0)) (pt_l4 (pt_3s hk0)) inX4 rfl 3 (by decide) kw_278 rfl rfl dX3_leave_27 ?_
          refine lv_iload_n hx hb dX3_leave_30 rfl (lv_at hl 2 rfl) ?_
          refine pt_calli (pt_runSN (n := 1) (As := [.int x2]) (rest := [.int (M_16 (k0 + 1) 3), .ref (ad (k0 + 1))]) F hP (mtX7_setOf l D cA ad hI _ x2 M_16 _ hw) kw_103 kw_725 kw_52 kw_102 ⟨by decide, by decide, by decide +kernel⟩ ⟨rfl, rfl, Nat.le_of_ble_eq_true rfl, Nat.le_of_ble_eq_true rfl⟩ rfl hl.1 rfl (Nat.le_of_ble_eq_true rfl) dX3_leave_31 ⟨Nat.zero_le _, Nat.zero_le _⟩) hS (fun _ h => h) (fun r_31 M_31 H locs hw hP hS _ _ => ?_)
          refine lv_iconst (v := (-1)) hx hb dX3_leave_34 (by decide) ?_
          refine lv_ixor hx hb dX3_leave_35 ?_
          refine lv_iand hx hb dX3_leave_36 ?_
          refine pt_put F hP hD hS (pt_c4 _ (pt_3s hk0)) (pt_l4 (pt_3s hk0)) inX4 tyX4 tyX4_ok nmX4 rfl 3 (by decide) kw_278 rfl rfl rfl rfl (Nat.le_of_ble_eq_true rfl) (pt_c4 _ (pt_3s hk0)) dX3_leave_37 (fun M_37 H locs eM_37 hP hS => ?_)
          replace hw := hw M_37 eM_37
          refine lv_aload_n hx hb dX3_leave_40 rfl (lv_at hl 0 rfl) ?_
          refine pt_get F hP (pt_c3 _ hk0) (pt_l3 hk0) inX3 rfl 1 (by decide) kw_290 rfl rfl dX3_leave_41 ?_
          refine pt_get F hP (pt_c4 _ (pt_3s hk0)) (pt_l4 (pt_3s hk0)) inX4 rfl 0 (by decide) kw_268 rfl rfl dX3_leave_44 ?_
          refine lv_iload_n hx hb dX3_leave_47 rfl (lv_at hl 2 rfl) ?_
          refine lv_iconst (v := (-1)) hx hb dX3_leave_48 (by decide) ?_
          have hv49 := hw.1
          replace hw := hw.2
          refine pt_iast F hP hD hS (pt_4a (pt_3s hk0)) hv49 dX3_leave_49 (fun M_49 H locs eM_49 hP hS => ?_)
          replace hw := hw M_49 eM_49
          refine lv_aload_n hx hb dX3_leave_50 rfl (lv_at hl 0 rfl) ?_
          refine lv_aload_n hx hb dX3_leave_51 rfl (lv_at hl 0 rfl) ?_
          refine pt_get F hP (pt_c3 _ hk0) (pt_l3 hk0) inX3 rfl 0 (by decide) kw_289 rfl rfl dX3_leave_52 ?_
          refine pt_get F hP (pt_c1 _ pt_k1) (pt_l1 pt_k1) inX1 rfl 0 (by decide) kw_224 rfl rfl dX3_leave_55 ?_
          refine lv_iload_n hx hb dX3_leave_58 rfl (lv_at hl 2 rfl) ?_
          have hv59 := hw.1
          replace hw := hw.2
          refine pt_alds F hP hv59 dX3_leave_59 ?_
          refine pt_get F hP (pt_c5 _ (pt_ks hv59)) (pt_l5 (pt_ks hv59)) inX5 rfl 1 (by decide) kw_134 rfl rfl dX3_leave_60 ?_
          refine pt_callv (pt_runV (n := 1) (As := [.ref (ad ((pt_s x2) + 2))]) (rest := []) F hP (pt_c3 _ hk0) (pt_l3 hk0) rfl (mtX3_act l D cA ad hI _ k0 hk0 ((pt_s x2) + 2) (pt_5l (pt_ks hv59)) M_49 _ hw) kw_729 kw_726 kw_57 kw_728 kw_6 ⟨by decide, by decide, by decide +kernel⟩ ⟨rfl, rfl, Nat.le_of_ble_eq_true rfl, Nat.le_of_ble_eq_true rfl⟩ rfl hl.1 rfl (Nat.le_of_ble_eq_true rfl) dX3_leave_63 ⟨Nat.zero_le _, Nat.zero_le _⟩) hS (fun _ h => h) (fun M_63 H locs hw hP hS _ _ => ?_)
          exact J66 x2 M_63 _ _ _ hw hP hS (lv_sub hl [0, 1, 2] rfl)
  unfold wpX3_leave at hw
  refine lv_aload_n hx hb dX3_leave_0 rfl (lv_at hl 0 rfl) ?_
  refine pt_get F hP (pt_c3 _ hk0) (pt_l3 hk0) inX3 rfl 0 (by decide) kw_289 rfl rfl dX3_leave_1 ?_
  refine pt_get F hP (pt_c1 _ pt_k1) (pt_l1 pt_k1) inX1 rfl 3 (by decide) kw_232 rfl rfl dX3_leave_4 ?_
  refine lv_iconst (v := 1) hx hb dX3_leave_7 (by decide) ?_
  refine lv_isub hx hb dX3_leave_8 ?_
  refine lv_topi (fun x2_9 ex2_9 => ?_)
  replace hw := hw x2_9 ex2_9
  refine lv_istore_n (lv' := [(2, .int x2_9), (0, .ref (ad k0)), (1, .int p1)]) hx hb dX3_leave_9 rfl hl (by decide) rfl (fun ls hl => ?_)
  obtain ⟨n_, hw⟩ := hw
  exact L10 n_ x2_9 M _ _ _ hw hP hS (lv_sub hl [1, 2, 0] rfl)
-- ===== X3_enter
def wjX3_enter_63 (k0 : Nat) (p1 : Int32) (Q : pt_M → Prop) (R2 : Int32 → pt_M → Prop) (x2 : Int32) (M : pt_M) : Prop :=
  ∀ x2_63 : Int32, x2_63 = x2 + 1 → R2 x2_63 M
def lbX3_enter_2 (k0 : Nat) (p1 : Int32) (Q : pt_M → Prop)  (R2 : Int32 → pt_M → Prop) (x2 : Int32) (M : pt_M) : Prop :=
  ((M 1 3) ≤ x2 → Q M) ∧ (¬ (M 1 3) ≤ x2 → wpX7_has p1 x2 M (fun (r_15 : Int32) (M_15 : pt_M) => (r_15 = 0 → wjX3_enter_63 k0 p1 Q R2 x2 M_15) ∧ (¬ r_15 = 0 → wpX7_setOf x2 M_15 (fun (r_30 : Int32) (M_30 : pt_M) => ∀ M_34 : pt_M, M_34 = pt_st M_30 (k0 + 1) 3 ((M_15 (k0 + 1) 3) ||| r_30) → vp_in x2 20 ∧ ∀ M_46 : pt_M, M_46 = pt_st M_34 ((k0 + 1) + 1) (Int32.toNatClampNeg x2) 0 → vp_in x2 20 ∧ (wpX3_act k0 ((pt_s x2) + 1) M_46 (fun (M_60 : pt_M) => wjX3_enter_63 k0 p1 Q R2 x2 M_60))))))
def lpX3_enter_2 (k0 : Nat) (p1 : Int32) (Q : pt_M → Prop)  : Nat → Int32 → pt_M → Prop
  | 0 => fun _ _ => False
  | n + 1 => fun x2 M => lbX3_enter_2 k0 p1 Q (lpX3_enter_2 k0 p1 Q n) x2 M
def wpX3_enter (k0 : Nat) (p1 : Int32) (M : pt_M) (Q : pt_M → Prop) : Prop :=
  ∃ n : Nat, lpX3_enter_2 k0 p1 Q n 0 M
set_option maxHeartbeats 4000000 in
set_option maxRecDepth 100000 in
theorem mtX3_enter (l : Launch) (D : va_G) (cA : Nat → ClassId) (ad : Nat → Nat) (hI : pt_I ad) (sz : Nat) (k0 : Nat) (hk0 : pt_kd k0 = 3) (p1 : Int32) (M : pt_M) (Q : pt_M → Prop) (hw : wpX3_enter k0 p1 M Q) : Met l yX3_enter (Cond.code yX3_enter cX3_enter 3 none :: lw_all) ({ frames := 3, cells := 0, slots := 0, locals := 65 } : Room) (va_Pc [.ref (ad k0), .int p1] (pt_P D cA ad sz M)) (va_Qv Q (pt_B D cA ad) (pt_fr ad sz)) 0 0 (pt_fr ad sz) := by
  refine Met.ofW (cc := cX3_enter) (maxL := 3) (ret := none) (by decide) rfl ?_
  intro p e s m args below meth c s₁ B hml hv
  obtain ⟨rfl, hsz, hP, hK⟩ := hv
  have hx := B.exec
  have hb := B.bytes
  have hr := B.returns
  have hts0 := atoms_spec (ws := (Cond.code yX3_enter cX3_enter 3 none :: lw_all)) B.pre
  have hown : s.vm.findClass RX3 = some m.cls := findClass_of_methodNamed B.named
  have hlocks := B.notSynchronized
  subst hsz
  have F : pt_F p m c cX3_enter 3 s _ RX3 D cA := ⟨⟨hx, hb, hml, hown, fun w h => hts0 w (List.mem_cons_of_mem _ h)⟩, hK⟩
  have hD : ∀ M, va_D (pt_fr ad s.heap.size) (pt_W cA ad M) := pt_D hI (fun k h => Or.inl ⟨k, h, rfl⟩)
  have hS : va_S (pt_fr ad s.heap.size) s.heap s.heap [] := va_S.rf
  have hl := lv_entry ([.ref (ad k0), .int p1]) (n := 3) (Nat.le_of_ble_eq_true rfl)
  rw [lg_entry_eq]
  generalize (lg_sl ([.ref (ad k0), .int p1]) ++ List.replicate (3 - (lg_sl ([.ref (ad k0), .int p1])).length) Slot.unset).toArray = ls at hl ⊢
  have hl : lv_has ls 3 [(0, .ref (ad k0)), (1, .int p1)] := hl
  have L2 : ∀ (n2 : Nat) (x2 : Int32) (M : pt_M) (H : Heap) (locs : List Loc) (ls : Array Slot), lpX3_enter_2 k0 p1 Q n2 x2 M → va_P D pt_cl (pt_W cA ad M) H → va_S (pt_fr ad s.heap.size) s.heap H locs → lv_has ls 3 [(0, .ref (ad k0)), (1, .int p1), (2, .int x2)] → W p l e (headSpec (Cond.code yX3_enter cX3_enter 3 none :: lw_all) ({ frames := 3, cells := 0, slots := 0, locals := 65 } : Room)).room s m ([.ref (ad k0), .int p1] : List Value).toArray below meth c H locs 0 0 (MQ below (va_Qv Q (pt_B D cA ad) (pt_fr ad s.heap.size)) ([.ref (ad k0), .int p1] : List Value).toArray s 0 0 (pt_fr ad s.heap.size)) (F0 m 2 ls []) := by
    intro n2
    induction n2 with
    | zero => intro x2 M H locs ls hw; exact hw.elim
    | succ n2 ih2 =>
      have J63 : ∀ (x2 : Int32) (M : pt_M) (H : Heap) (locs : List Loc) (ls : Array Slot), wjX3_enter_63 k0 p1 Q (lpX3_enter_2 k0 p1 Q n2) x2 M → va_P D pt_cl (pt_W cA ad M) H → va_S (pt_fr ad s.heap.size) s.heap H locs → lv_has ls 3 [(0, .ref (ad k0)), (1, .int p1), (2, .int x2)] → W p l e (headSpec (Cond.code yX3_enter cX3_enter 3 none :: lw_all) ({ frames := 3, cells := 0, slots := 0, locals := 65 } : Room)).room s m ([.ref (ad k0), .int p1] : List Value).toArray below meth c H locs 0 0 (MQ below (va_Qv Q (pt_B D cA ad) (pt_fr ad s.heap.size)) ([.ref (ad k0), .int p1] : List Value).toArray s 0 0 (pt_fr ad s.heap.size)) (F0 m 63 ls []) := by
        intro x2 M H locs ls hw hP hS hl
        unfold wjX3_enter_63 at hw
        obtain ⟨x2_63, ex2_63⟩ : ∃ y : Int32, y = x2 + 1 := ⟨_, rfl⟩
        replace hw := hw x2_63 ex2_63
        refine lv_iinc (v := x2_63) (lv' := [(2, .int x2_63), (0, .ref (ad k0)), (1, .int p1)]) hx hb dX3_enter_63 hl (k := 2) rfl (by rw [ex2_63]; rfl) (by decide) rfl (fun ls hl => ?_)
        refine lv_goto (tgt := 2) hx hb dX3_enter_66 (by decide) ?_
        exact ih2 x2_63 M _ _ _ hw hP hS (lv_sub hl [1, 2, 0] rfl)
      intro x2 M H locs ls hw hP hS hl
      replace hw : lbX3_enter_2 k0 p1 Q (lpX3_enter_2 k0 p1 Q n2) x2 M := hw
      unfold lbX3_enter_2 at hw
      refine lv_iload_n hx hb dX3_enter_2 rfl (lv_at hl 2 rfl) ?_
      refine lv_aload_n hx hb dX3_enter_3 rfl (lv_at hl 0 rfl) ?_
      refine pt_get F hP (pt_c3 _ hk0) (pt_l3 hk0) inX3 rfl 0 (by decide) kw_289 rfl rfl dX3_enter_4 ?_
      refine pt_get F hP (pt_c1 _ pt_k1) (pt_l1 pt_k1) inX1 rfl 3 (by decide) kw_232 rfl rfl dX3_enter_7 ?_
      refine lv_icmp_ge (tgt := 69) hx hb dX3_enter_10 (by decide) (fun hc10 => ?_) (fun hc10 => ?_)
      · replace hw := hw.1 hc10
        exact W.vret hx hb hr (fun t ht hW => ⟨⟨M, rfl, hw, by unfold pt_B; rw [ht]; exact hP⟩, hS.F ht⟩) hS.2.2 dX3_enter_69
      · replace hw := hw.2 hc10
        refine lv_iload_n hx hb dX3_enter_13 rfl (lv_at hl 1 rfl) ?_
        refine lv_iload_n hx hb dX3_enter_14 rfl (lv_at hl 2 rfl) ?_
        refine pt_calli (pt_runSN (n := 2) (As := [.int p1, .int x2]) (rest := []) F hP (mtX7_has l D cA ad hI _ p1 x2 M _ hw) kw_449 kw_724 kw_52 kw_448 ⟨by decide, by decide, by decide +kernel⟩ ⟨rfl, rfl, Nat.le_of_ble_eq_true rfl, Nat.le_of_ble_eq_true rfl⟩ rfl hl.1 rfl (Nat.le_of_ble_eq_true rfl) dX3_enter_15 ⟨Nat.zero_le _, Nat.zero_le _⟩) hS (fun _ h => h) (fun r_15 M_15 H locs hw hP hS _ _ => ?_)
        refine lv_if_eq (tgt := 63) hx hb dX3_enter_18 (by decide) (fun hc18 => ?_) (fun hc18 => ?_)
        · replace hw := hw.1 hc18
          exact J63 x2 M_15 _ _ _ hw hP hS (lv_sub hl [0, 1, 2] rfl)
        · replace hw := hw.2 hc18
          refine lv_aload_n hx hb dX3_enter_21 rfl (lv_at hl 0 rfl) ?_
          refine pt_get F hP (pt_c3 _ hk0) (pt_l3 hk0) inX3 rfl 1 (by decide) kw_290 rfl rfl dX3_enter_22 ?_
          refine lv_dup hx hb dX3_enter_25 rfl ?_
          refine pt_get F hP (pt_c4 _ (pt_3s hk0)) (pt_l4 (pt_3s hk0)) inX4 rfl 3 (by decide) kw_278 rfl rfl dX3_enter_26 ?_
          refine lv_iload_n hx hb dX3_enter_29 rfl (lv_at hl 2 rfl) ?_
          refine pt_calli (pt_runSN (n := 1) (As := [.int x2]) (rest := [.int (M_15 (k0 + 1) 3), .ref (ad (k0 + 1))]) F hP (mtX7_setOf l D cA ad hI _ x2 M_15 _ hw) kw_103 kw_725 kw_52 kw_102 ⟨by decide, by decide, by decide +kernel⟩ ⟨rfl, rfl, Nat.le_of_ble_eq_true rfl, Nat.le_of_ble_eq_true rfl⟩ rfl hl.1 rfl (Nat.le_of_ble_eq_true rfl) dX3_enter_30 ⟨Nat.zero_le _, Nat.zero_le _⟩) hS (fun _ h => h) (fun r_30 M_30 H locs hw hP hS _ _ => ?_)
          refine lv_ior hx hb dX3_enter_33 ?_
          refine pt_put F hP hD hS (pt_c4 _ (pt_3s hk0)) (pt_l4 (pt_3s hk0)) inX4 tyX4 tyX4_ok nmX4 rfl 3 (by decide) kw_278 rfl rfl rfl rfl (Nat.le_of_ble_eq_true rfl) (pt_c4 _ (pt_3s hk0)) dX3_enter_34 (fun M_34 H locs eM_34 hP hS => ?_)
          replace hw := hw M_34 eM_34
          refine lv_aload_n hx hb dX3_enter_37 rfl (lv_at hl 0 rfl) ?_
          refine pt_get F hP (pt_c3 _ hk0) (pt_l3 hk0) inX3 rfl 1 (by decide) kw_290 rfl rfl dX3_enter_38 ?_
          refine pt_get F hP (pt_c4 _ (pt_3s hk0)) (pt_l4 (pt_3s hk0)) inX4 rfl 0 (by decide) kw_268 rfl rfl dX3_enter_41 ?_
          refine lv_iload_n hx hb dX3_enter_44 rfl (lv_at hl 2 rfl) ?_
          refine lv_iconst (v := 0) hx hb dX3_enter_45 (by decide) ?_
          have hv46 := hw.1
          replace hw := hw.2
          refine pt_iast F hP hD hS (pt_4a (pt_3s hk0)) hv46 dX3_enter_46 (fun M_46 H locs eM_46 hP hS => ?_)
          replace hw := hw M_46 eM_46
          refine lv_aload_n hx hb dX3_enter_47 rfl (lv_at hl 0 rfl) ?_
          refine lv_aload_n hx hb dX3_enter_48 rfl (lv_at hl 0 rfl) ?_
          refine pt_get F hP (pt_c3 _ hk0) (pt_l3 hk0) inX3 rfl 0 (by decide) kw_289 rfl rfl dX3_enter_49 ?_
          refine pt_get F hP (pt_c1 _ pt_k1) (pt_l1 pt_k1) inX1 rfl 0 (by decide) kw_224 rfl rfl dX3_enter_52 ?_
          refine lv_iload_n hx hb dX3_enter_55 rfl (lv_at hl 2 rfl) ?_
          have hv56 := hw.1
          replace hw := hw.2
          refine pt_alds F hP hv56 dX3_enter_56 ?_
          refine pt_get F hP (pt_c5 _ (pt_ks hv56)) (pt_l5 (pt_ks hv56)) inX5 rfl 0 (by decide) kw_131 rfl rfl dX3_enter_57 ?_
          refine pt_callv (pt_runV (n := 1) (As := [.ref (ad ((pt_s x2) + 1))]) (rest := []) F hP (pt_c3 _ hk0) (pt_l3 hk0) rfl (mtX3_act l D cA ad hI _ k0 hk0 ((pt_s x2) + 1) (pt_5e (pt_ks hv56)) M_46 _ hw) kw_729 kw_726 kw_57 kw_728 kw_6 ⟨by decide, by decide, by decide +kernel⟩ ⟨rfl, rfl, Nat.le_of_ble_eq_true rfl, Nat.le_of_ble_eq_true rfl⟩ rfl hl.1 rfl (Nat.le_of_ble_eq_true rfl) dX3_enter_60 ⟨Nat.zero_le _, Nat.zero_le _⟩) hS (fun _ h => h) (fun M_60 H locs hw hP hS _ _ => ?_)
          exact J63 x2 M_60 _ _ _ hw hP hS (lv_sub hl [0, 1, 2] rfl)
  unfold wpX3_enter at hw
  refine lv_iconst (v := 0) hx hb dX3_enter_0 (by decide) ?_
  refine lv_istore_n (lv' := [(2, .int 0), (0, .ref (ad k0)), (1, .int p1)]) hx hb dX3_enter_1 rfl hl (by decide) rfl (fun ls hl => ?_)
  obtain ⟨n_, hw⟩ := hw
  exact L2 n_ 0 M _ _ _ hw hP hS (lv_sub hl [1, 2, 0] rfl)
-- ===== X3_targetsOf
def wjX3_targetsOf_97 (k0 : Nat) (k1 : Nat) (Q : Int32 → pt_M → Prop)  (xs0 : Int32) (M : pt_M) : Prop :=
  Q xs0 M
def wpX3_targetsOf (k0 : Nat) (k1 : Nat) (M : pt_M) (Q : Int32 → pt_M → Prop) : Prop :=
  vp_in (M k1 4) 20 ∧ (wpX5_isMark (pt_s (M k1 4)) M (fun (r_12 : Int32) (M_12 : pt_M) => (¬ r_12 = 0 → vp_in (M_12 k1 4) 20 ∧ (((M_12 ((k0 + 1) + 2) (Int32.toNatClampNeg (M_12 k1 4))) = 0 → vp_in (M_12 k1 4) 20 ∧ (∀ x2_69 : Int32, x2_69 = (M_12 (pt_s (M_12 k1 4)) 3) → (¬ x2_69 = (M_12 k1 5) → wpX7_setOf x2_69 M_12 (fun (r_94 : Int32) (M_94 : pt_M) => wjX3_targetsOf_97 k0 k1 Q r_94 M_94)) ∧ (x2_69 = (M_12 k1 5) → vp_in x2_69 20 ∧ (wjX3_targetsOf_97 k0 k1 Q (M_12 (pt_s x2_69) 6) M_12)))) ∧ (¬ (M_12 ((k0 + 1) + 2) (Int32.toNatClampNeg (M_12 k1 4))) = 0 → vp_in (M_12 k1 4) 20 ∧ (Q (M_12 ((k0 + 1) + 2) (Int32.toNatClampNeg (M_12 k1 4))) M_12)))) ∧ (r_12 = 0 → wpX7_setOf (M_12 k1 4) M_12 (fun (r_22 : Int32) (M_22 : pt_M) => Q r_22 M_22))))
set_option maxHeartbeats 4000000 in
set_option maxRecDepth 100000 in
theorem mtX3_targetsOf (l : Launch) (D : va_G) (cA : Nat → ClassId) (ad : Nat → Nat) (hI : pt_I ad) (sz : Nat) (k0 : Nat) (hk0 : pt_kd k0 = 3) (k1 : Nat) (hk1 : pt_kd k1 = 6) (M : pt_M) (Q : Int32 → pt_M → Prop) (hw : wpX3_targetsOf k0 k1 M Q) : Met l yX3_targetsOf (Cond.code yX3_targetsOf cX3_targetsOf 3 (some .int) :: lw_all) ({ frames := 1, cells := 0, slots := 0, locals := 20 } : Room) (va_Pc [.ref (ad k0), .ref (ad k1)] (pt_P D cA ad sz M)) (va_Qi Q (pt_B D cA ad) (pt_fr ad sz)) 0 0 (pt_fr ad sz) := by
  refine Met.ofW (cc := cX3_targetsOf) (maxL := 3) (ret := (some .int)) (by decide) rfl ?_
  intro p e s m args below meth c s₁ B hml hv
  obtain ⟨rfl, hsz, hP, hK⟩ := hv
  have hx := B.exec
  have hb := B.bytes
  have hr := B.returns
  have hts0 := atoms_spec (ws := (Cond.code yX3_targetsOf cX3_targetsOf 3 (some .int) :: lw_all)) B.pre
  have hown : s.vm.findClass RX3 = some m.cls := findClass_of_methodNamed B.named
  have hlocks := B.notSynchronized
  subst hsz
  have F : pt_F p m c cX3_targetsOf 3 s _ RX3 D cA := ⟨⟨hx, hb, hml, hown, fun w h => hts0 w (List.mem_cons_of_mem _ h)⟩, hK⟩
  have hD : ∀ M, va_D (pt_fr ad s.heap.size) (pt_W cA ad M) := pt_D hI (fun k h => Or.inl ⟨k, h, rfl⟩)
  have hS : va_S (pt_fr ad s.heap.size) s.heap s.heap [] := va_S.rf
  have hl := lv_entry ([.ref (ad k0), .ref (ad k1)]) (n := 3) (Nat.le_of_ble_eq_true rfl)
  rw [lg_entry_eq]
  generalize (lg_sl ([.ref (ad k0), .ref (ad k1)]) ++ List.replicate (3 - (lg_sl ([.ref (ad k0), .ref (ad k1)])).length) Slot.unset).toArray = ls at hl ⊢
  have hl : lv_has ls 3 [(0, .ref (ad k0)), (1, .ref (ad k1))] := hl
  have J97 : ∀ (xs0 : Int32) (M : pt_M) (H : Heap) (locs : List Loc) (ls : Array Slot), wjX3_targetsOf_97 k0 k1 Q xs0 M → va_P D pt_cl (pt_W cA ad M) H → va_S (pt_fr ad s.heap.size) s.heap H locs → lv_has ls 3 [] → W p l e (headSpec (Cond.code yX3_targetsOf cX3_targetsOf 3 (some .int) :: lw_all) ({ frames := 1, cells := 0, slots := 0, locals := 20 } : Room)).room s m ([.ref (ad k0), .ref (ad k1)] : List Value).toArray below meth c H locs 0 0 (MQ below (va_Qi Q (pt_B D cA ad) (pt_fr ad s.heap.size)) ([.ref (ad k0), .ref (ad k1)] : List Value).toArray s 0 0 (pt_fr ad s.heap.size)) (F0 m 97 ls [.int xs0]) := by
    intro xs0 M H locs ls hw hP hS hl
    unfold wjX3_targetsOf_97 at hw
    exact W.iret (v := xs0) hx hb hr (fun t ht hW => ⟨⟨xs0, M, rfl, hw, by unfold pt_B; rw [ht]; exact hP⟩, hS.F ht⟩) hS.2.2 dX3_targetsOf_97
  unfold wpX3_targetsOf at hw
  refine lv_aload_n hx hb dX3_targetsOf_0 rfl (lv_at hl 0 rfl) ?_
  refine pt_get F hP (pt_c3 _ hk0) (pt_l3 hk0) inX3 rfl 0 (by decide) kw_289 rfl rfl dX3_targetsOf_1 ?_
  refine pt_get F hP (pt_c1 _ pt_k1) (pt_l1 pt_k1) inX1 rfl 0 (by decide) kw_224 rfl rfl dX3_targetsOf_4 ?_
  refine lv_aload_n hx hb dX3_targetsOf_7 rfl (lv_at hl 1 rfl) ?_
  refine pt_get F hP (pt_c6 _ hk1) (pt_l6 hk1) inX6 rfl 4 (by decide) kw_193 rfl rfl dX3_targetsOf_8 ?_
  have hv11 := hw.1
  replace hw := hw.2
  refine pt_alds F hP hv11 dX3_targetsOf_11 ?_
  refine pt_calli (pt_runV (n := 0) (As := []) (rest := []) F hP (pt_c5 _ (pt_ks hv11)) (pt_l5 (pt_ks hv11)) rfl (mtX5_isMark l D cA ad hI _ (pt_s (M k1 4)) (pt_ks hv11) M _ hw) kw_567 kw_798 kw_54 kw_565 kw_566 ⟨by decide, by decide, by decide +kernel⟩ ⟨rfl, rfl, Nat.le_of_ble_eq_true rfl, Nat.le_of_ble_eq_true rfl⟩ rfl hl.1 rfl (Nat.le_of_ble_eq_true rfl) dX3_targetsOf_12 ⟨Nat.zero_le _, Nat.zero_le _⟩) hS (fun _ h => h) (fun r_12 M_12 H locs hw hP hS _ _ => ?_)
  refine lv_if_ne (tgt := 26) hx hb dX3_targetsOf_15 (by decide) (fun hc15 => ?_) (fun hc15 => ?_)
  · replace hw := hw.1 hc15
    refine lv_aload_n hx hb dX3_targetsOf_26 rfl (lv_at hl 0 rfl) ?_
    refine pt_get F hP (pt_c3 _ hk0) (pt_l3 hk0) inX3 rfl 1 (by decide) kw_290 rfl rfl dX3_targetsOf_27 ?_
    refine pt_get F hP (pt_c4 _ (pt_3s hk0)) (pt_l4 (pt_3s hk0)) inX4 rfl 1 (by decide) kw_271 rfl rfl dX3_targetsOf_30 ?_
    refine lv_aload_n hx hb dX3_targetsOf_33 rfl (lv_at hl 1 rfl) ?_
    refine pt_get F hP (pt_c6 _ hk1) (pt_l6 hk1) inX6 rfl 4 (by decide) kw_193 rfl rfl dX3_targetsOf_34 ?_
    have hv37 := hw.1
    replace hw := hw.2
    refine pt_iald F hP (pt_4r (pt_3s hk0)) hv37 dX3_targetsOf_37 ?_
    refine lv_if_eq (tgt := 54) hx hb dX3_targetsOf_38 (by decide) (fun hc38 => ?_) (fun hc38 => ?_)
    · replace hw := hw.1 hc38
      refine lv_aload_n hx hb dX3_targetsOf_54 rfl (lv_at hl 0 rfl) ?_
      refine pt_get F hP (pt_c3 _ hk0) (pt_l3 hk0) inX3 rfl 0 (by decide) kw_289 rfl rfl dX3_targetsOf_55 ?_
      refine pt_get F hP (pt_c1 _ pt_k1) (pt_l1 pt_k1) inX1 rfl 0 (by decide) kw_224 rfl rfl dX3_targetsOf_58 ?_
      refine lv_aload_n hx hb dX3_targetsOf_61 rfl (lv_at hl 1 rfl) ?_
      refine pt_get F hP (pt_c6 _ hk1) (pt_l6 hk1) inX6 rfl 4 (by decide) kw_193 rfl rfl dX3_targetsOf_62 ?_
      have hv65 := hw.1
      replace hw := hw.2
      refine pt_alds F hP hv65 dX3_targetsOf_65 ?_
      refine pt_get F hP (pt_c5 _ (pt_ks hv65)) (pt_l5 (pt_ks hv65)) inX5 rfl 3 (by decide) kw_142 rfl rfl dX3_targetsOf_66 ?_
      refine lv_topi (fun x2_69 ex2_69 => ?_)
      replace hw := hw x2_69 ex2_69
      refine lv_istore_n (lv' := [(2, .int x2_69), (0, .ref (ad k0)), (1, .ref (ad k1))]) hx hb dX3_targetsOf_69 rfl hl (by decide) rfl (fun ls hl => ?_)
      refine lv_iload_n hx hb dX3_targetsOf_70 rfl (lv_at hl 0 rfl) ?_
      refine lv_aload_n hx hb dX3_targetsOf_71 rfl (lv_at hl 2 rfl) ?_
      refine pt_get F hP (pt_c6 _ hk1) (pt_l6 hk1) inX6 rfl 5 (by decide) kw_196 rfl rfl dX3_targetsOf_72 ?_
      refine lv_icmp_ne (tgt := 93) hx hb dX3_targetsOf_75 (by decide) (fun hc75 => ?_) (fun hc75 => ?_)
      · replace hw := hw.1 hc75
        refine lv_iload_n hx hb dX3_targetsOf_93 rfl (lv_at hl 0 rfl) ?_
        refine pt_calli (pt_runSN (n := 1) (As := [.int x2_69]) (rest := []) F hP (mtX7_setOf l D cA ad hI _ x2_69 M_12 _ hw) kw_103 kw_725 kw_52 kw_102 ⟨by decide, by decide, by decide +kernel⟩ ⟨rfl, rfl, Nat.le_of_ble_eq_true rfl, Nat.le_of_ble_eq_true rfl⟩ rfl hl.1 rfl (Nat.le_of_ble_eq_true rfl) dX3_targetsOf_94 ⟨Nat.zero_le _, Nat.zero_le _⟩) hS (fun _ h => h) (fun r_94 M_94 H locs hw hP hS _ _ => ?_)
        exact J97 r_94 M_94 _ _ _ hw hP hS (lv_sub hl [] rfl)
      · replace hw := hw.2 hc75
        refine lv_aload_n hx hb dX3_targetsOf_78 rfl (lv_at hl 1 rfl) ?_
        refine pt_get F hP (pt_c3 _ hk0) (pt_l3 hk0) inX3 rfl 0 (by decide) kw_289 rfl rfl dX3_targetsOf_79 ?_
        refine pt_get F hP (pt_c1 _ pt_k1) (pt_l1 pt_k1) inX1 rfl 0 (by decide) kw_224 rfl rfl dX3_targetsOf_82 ?_
        refine lv_iload_n hx hb dX3_targetsOf_85 rfl (lv_at hl 0 rfl) ?_
        have hv86 := hw.1
        replace hw := hw.2
        refine pt_alds F hP hv86 dX3_targetsOf_86 ?_
        refine pt_get F hP (pt_c5 _ (pt_ks hv86)) (pt_l5 (pt_ks hv86)) inX5 rfl 6 (by decide) kw_151 rfl rfl dX3_targetsOf_87 ?_
        refine lv_goto (tgt := 97) hx hb dX3_targetsOf_90 (by decide) ?_
        exact J97 (M_12 (pt_s x2_69) 6) M_12 _ _ _ hw hP hS (lv_sub hl [] rfl)
    · replace hw := hw.2 hc38
      refine lv_aload_n hx hb dX3_targetsOf_41 rfl (lv_at hl 0 rfl) ?_
      refine pt_get F hP (pt_c3 _ hk0) (pt_l3 hk0) inX3 rfl 1 (by decide) kw_290 rfl rfl dX3_targetsOf_42 ?_
      refine pt_get F hP (pt_c4 _ (pt_3s hk0)) (pt_l4 (pt_3s hk0)) inX4 rfl 1 (by decide) kw_271 rfl rfl dX3_targetsOf_45 ?_
      refine lv_aload_n hx hb dX3_targetsOf_48 rfl (lv_at hl 1 rfl) ?_
      refine pt_get F hP (pt_c6 _ hk1) (pt_l6 hk1) inX6 rfl 4 (by decide) kw_193 rfl rfl dX3_targetsOf_49 ?_
      have hv52 := hw.1
      replace hw := hw.2
      refine pt_iald F hP (pt_4r (pt_3s hk0)) hv52 dX3_targetsOf_52 ?_
      exact W.iret (v := (M_12 ((k0 + 1) + 2) (Int32.toNatClampNeg (M_12 k1 4)))) hx hb hr (fun t ht hW => ⟨⟨(M_12 ((k0 + 1) + 2) (Int32.toNatClampNeg (M_12 k1 4))), M_12, rfl, hw, by unfold pt_B; rw [ht]; exact hP⟩, hS.F ht⟩) hS.2.2 dX3_targetsOf_53
  · replace hw := hw.2 hc15
    refine lv_aload_n hx hb dX3_targetsOf_18 rfl (lv_at hl 1 rfl) ?_
    refine pt_get F hP (pt_c6 _ hk1) (pt_l6 hk1) inX6 rfl 4 (by decide) kw_193 rfl rfl dX3_targetsOf_19 ?_
    refine pt_calli (pt_runSN (n := 1) (As := [.int (M_12 k1 4)]) (rest := []) F hP (mtX7_setOf l D cA ad hI _ (M_12 k1 4) M_12 _ hw) kw_103 kw_725 kw_52 kw_102 ⟨by decide, by decide, by decide +kernel⟩ ⟨rfl, rfl, Nat.le_of_ble_eq_true rfl, Nat.le_of_ble_eq_true rfl⟩ rfl hl.1 rfl (Nat.le_of_ble_eq_true rfl) dX3_targetsOf_22 ⟨Nat.zero_le _, Nat.zero_le _⟩) hS (fun _ h => h) (fun r_22 M_22 H locs hw hP hS _ _ => ?_)
    exact W.iret (v := r_22) hx hb hr (fun t ht hW => ⟨⟨r_22, M_22, rfl, hw, by unfold pt_B; rw [ht]; exact hP⟩, hS.F ht⟩) hS.2.2 dX3_targetsOf_25
