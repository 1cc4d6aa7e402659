-- ===== X9_taken
def wjX9_taken_282 (p1 : Int32) (p2 : Int32) (Q : pt_M → Prop) (R17 : Nat → Int32 → pt_M → Prop) (q3 : Nat) (x5 : Int32) (M : pt_M) : Prop :=
  ∀ x5_282 : Int32, x5_282 = x5 + 1 → R17 q3 x5_282 M
def lbX9_taken_17 (p1 : Int32) (p2 : Int32) (Q : pt_M → Prop)  (R17 : Nat → Int32 → pt_M → Prop) (q3 : Nat) (x5 : Int32) (M : pt_M) : Prop :=
  wpJx4a65c_size_8abf5 2 M (fun (r_29 : Int32) (M_29 : pt_M) => (r_29 ≤ x5 → Q M_29) ∧ (¬ r_29 ≤ x5 → wpX12_has (M_29 6 1) x5 M_29 (fun (r_41 : Int32) (M_41 : pt_M) => (r_41 = 0 → wjX9_taken_282 p1 p2 Q R17 q3 x5 M_41) ∧ (¬ r_41 = 0 → wpX8_isLeaf x5 M_41 (fun (r_56 : Int32) (M_56 : pt_M) => (¬ r_56 = 0 → wpX9_chosen x5 p1 p2 M_56 (fun (r_70 : Int32) (M_70 : pt_M) => (r_70 = (-1) → wjX9_taken_282 p1 p2 Q R17 q3 x5 M_70) ∧ (¬ r_70 = (-1) → False))) ∧ (r_56 = 0 → wjX9_taken_282 p1 p2 Q R17 q3 x5 M_56))))))
def lpX9_taken_17 (p1 : Int32) (p2 : Int32) (Q : pt_M → Prop)  : Nat → Nat → Int32 → pt_M → Prop
  | 0 => fun _ _ _ => False
  | n + 1 => fun q3 x5 M => lbX9_taken_17 p1 p2 Q (lpX9_taken_17 p1 p2 Q n) q3 x5 M
def wpX9_taken (p1 : Int32) (p2 : Int32) (M : pt_M) (Q : pt_M → Prop) : Prop :=
  ∀ q0 : Nat, ∃ n : Nat, lpX9_taken_17 p1 p2 Q n q0 0 M
set_option maxHeartbeats 4000000 in
set_option maxRecDepth 100000 in
theorem mtX9_taken (l : Launch) (D : va_G) (cA : Nat → ClassId) (ad : Nat → Nat) (hI : rt_I ad) (sz : Nat) (p1 : Int32) (p2 : Int32) (M : pt_M) (Q : pt_M → Prop) (hw : wpX9_taken p1 p2 M Q) : Met l yX9_taken (Cond.code yX9_taken cX9_taken 9 (some (.object "java/util/ArrayList")) :: lw_all) ({ frames := 6, cells := 2, slots := 33, locals := 129 } : Room) (va_Pc [.ref (ad 6), .int p1, .int p2] (rt_P D cA ad sz M)) (va_Qr Q (fun M q t => rt_L D cA ad sz q M t.heap) (rt_fr ad sz)) 2 33 (rt_fr ad sz) := by
  refine Met.ofW (cc := cX9_taken) (maxL := 9) (ret := (some (.object "java/util/ArrayList"))) (by decide) rfl ?_
  intro p e s m args below meth c s₁ B hml hv
  obtain ⟨rfl, hsz, hP, hK, hN⟩ := hv
  have hx := B.exec
  have hb := B.bytes
  have hr := B.returns
  have hts0 := atoms_spec (ws := (Cond.code yX9_taken cX9_taken 9 (some (.object "java/util/ArrayList")) :: lw_all)) B.pre
  have hown : s.vm.findClass RX9 = some m.cls := findClass_of_methodNamed B.named
  have hlocks := B.notSynchronized
  subst hsz
  have F : pt_F p m c cX9_taken 9 s _ RX9 D cA := ⟨⟨hx, hb, hml, hown, fun w h => hts0 w (List.mem_cons_of_mem _ h)⟩, hK⟩
  have hD : ∀ M, va_D (rt_fr ad s.heap.size) (rt_W cA ad M) := rt_D hI (fun k h => Or.inl ⟨k, h, rfl⟩)
  have hS : va_S (rt_fr ad s.heap.size) s.heap s.heap [] := va_S.rf
  have hl := lv_entry ([.ref (ad 6), .int p1, .int p2]) (n := 9) (Nat.le_of_ble_eq_true rfl)
  rw [lg_entry_eq]
  generalize (lg_sl ([.ref (ad 6), .int p1, .int p2]) ++ List.replicate (9 - (lg_sl ([.ref (ad 6), .int p1, .int p2])).length) Slot.unset).toArray = ls at hl ⊢
  have hl : lv_has ls 9 [(0, .ref (ad 6)), (1, .int p1), (2, .int p2)] := hl
  have L17 : ∀ (n17 : Nat) (q3 : Nat) (x5 : Int32) (M : pt_M) (H : Heap) (locs : List Loc) (ls : Array Slot), lpX9_taken_17 p1 p2 Q n17 q3 x5 M → rt_L D cA ad s.heap.size q3 M H → va_S (rt_fr ad s.heap.size) s.heap H locs → lv_has ls 9 [(0, .ref (ad 6)), (1, .int p1), (2, .int p2), (3, .ref q3), (5, .int x5)] → W p l e (headSpec (Cond.code yX9_taken cX9_taken 9 (some (.object "java/util/ArrayList")) :: lw_all) ({ frames := 6, cells := 2, slots := 33, locals := 129 } : Room)).room s m ([.ref (ad 6), .int p1, .int p2] : List Value).toArray below meth c H locs 2 33 (MQ below (va_Qr Q (fun M q t => rt_L D cA ad s.heap.size q M t.heap) (rt_fr ad s.heap.size)) ([.ref (ad 6), .int p1, .int p2] : List Value).toArray s 2 33 (rt_fr ad s.heap.size)) (F0 m 17 ls []) := by
    intro n17
    induction n17 with
    | zero => intro q3 x5 M H locs ls hw; exact hw.elim
    | succ n17 ih17 =>
      have J282 : ∀ (q3 : Nat) (x5 : Int32) (M : pt_M) (H : Heap) (locs : List Loc) (ls : Array Slot), wjX9_taken_282 p1 p2 Q (lpX9_taken_17 p1 p2 Q n17) q3 x5 M → rt_L D cA ad s.heap.size q3 M H → va_S (rt_fr ad s.heap.size) s.heap H locs → lv_has ls 9 [(0, .ref (ad 6)), (1, .int p1), (2, .int p2), (3, .ref q3), (5, .int x5)] → W p l e (headSpec (Cond.code yX9_taken cX9_taken 9 (some (.object "java/util/ArrayList")) :: lw_all) ({ frames := 6, cells := 2, slots := 33, locals := 129 } : Room)).room s m ([.ref (ad 6), .int p1, .int p2] : List Value).toArray below meth c H locs 2 33 (MQ below (va_Qr Q (fun M q t => rt_L D cA ad s.heap.size q M t.heap) (rt_fr ad s.heap.size)) ([.ref (ad 6), .int p1, .int p2] : List Value).toArray s 2 33 (rt_fr ad s.heap.size)) (F0 m 282 ls []) := by
        intro q3 x5 M H locs ls hw hP hS hl
        unfold wjX9_taken_282 at hw
        obtain ⟨x5_282, ex5_282⟩ : ∃ y : Int32, y = x5 + 1 := ⟨_, rfl⟩
        replace hw := hw x5_282 ex5_282
        refine lv_iinc (v := x5_282) (lv' := [(5, .int x5_282), (0, .ref (ad 6)), (1, .int p1), (2, .int p2), (3, .ref q3)]) hx hb dX9_taken_282 hl (k := 4) rfl (by rw [ex5_282]; rfl) (by decide) rfl (fun ls hl => ?_)
        refine lv_goto (tgt := 17) hx hb dX9_taken_285 (by decide) ?_
        exact ih17 q3 x5_282 M _ _ _ hw hP hS (lv_sub hl [1, 2, 3, 4, 0] rfl)
      intro q3 x5 M H locs ls hw hP hS hl
      replace hw : lbX9_taken_17 p1 p2 Q (lpX9_taken_17 p1 p2 Q n17) q3 x5 M := hw
      unfold lbX9_taken_17 at hw
      refine lv_iload hx hb dX9_taken_17 (lv_at hl 4 rfl) ?_
      refine lv_aload_n hx hb dX9_taken_19 rfl (lv_at hl 0 rfl) ?_
      refine rt_get F hP.1 (rt_c9 _ rt_k6) (rt_l9 rt_k6) inX9 rfl 10 (by decide) kw_1022 rfl rfl dX9_taken_20 ?_
      refine rt_getN F hP.1 (rt_c12 _ rt_k0) (rt_l12 rt_k0) inX12 rfl 1 (by decide) kw_1141 rfl rfl dX9_taken_23 ?_
      refine rt_get F hP.1 (rt_c8 _ rt_k1) (rt_l8 rt_k1) inX8 rfl 0 (by decide) kw_986 rfl rfl dX9_taken_26 ?_
      refine rt_calliL hP (rt_runV (n := 0) (As := []) (rest := [.int x5]) F hP.1 hN hS (rt_frs hS.1) (rt_c13 _ rt_k2) (rt_l13 rt_k2) rfl (mtJx4a65c_size_8abf5 l D cA ad hI _ 2 rt_k2 M _ hw) kw_1167 kw_1320 kw_64 kw_1165 kw_1166 ⟨by decide, by decide, by decide +kernel⟩ ⟨rfl, rfl, Nat.le_of_ble_eq_true rfl, Nat.le_of_ble_eq_true rfl⟩ rfl hl.1 rfl (Nat.le_of_ble_eq_true rfl) dX9_taken_29 ⟨Nat.le_of_ble_eq_true rfl, Nat.le_of_ble_eq_true rfl⟩) hS (fun _ h => h) (fun r_29 M_29 H locs hw hP hS _ _ => ?_)
      refine lv_icmp_ge (tgt := 288) hx hb dX9_taken_32 (by decide) (fun hc32 => ?_) (fun hc32 => ?_)
      · replace hw := hw.1 hc32
        refine lv_aload_n hx hb dX9_taken_288 rfl (lv_at hl 3 rfl) ?_
        exact W.aret (v := .ref q3) hx hb hr (Or.inl ⟨_, rfl⟩) (Or.inr ⟨_, rfl⟩) (fun t ht hW => ⟨⟨M_29, q3, rfl, hw, (show rt_L D cA ad s.heap.size q3 M_29 t.heap from by rw [ht]; exact hP)⟩, hS.F ht⟩) hS.2.2 dX9_taken_289
      · replace hw := hw.2 hc32
        refine lv_aload_n hx hb dX9_taken_35 rfl (lv_at hl 0 rfl) ?_
        refine rt_get F hP.1 (rt_c9 _ rt_k6) (rt_l9 rt_k6) inX9 rfl 1 (by decide) kw_1005 rfl rfl dX9_taken_36 ?_
        refine lv_iload hx hb dX9_taken_39 (lv_at hl 4 rfl) ?_
        refine rt_calliL hP (rt_runSN (n := 2) (As := [.int (M_29 6 1), .int x5]) (rest := []) F hP.1 hN hS (rt_frs hS.1) (mtX12_has l D cA ad hI _ (M_29 6 1) x5 M_29 _ hw) kw_1226 kw_1321 kw_60 kw_1225 ⟨by decide, by decide, by decide +kernel⟩ ⟨rfl, rfl, Nat.le_of_ble_eq_true rfl, Nat.le_of_ble_eq_true rfl⟩ rfl hl.1 rfl (Nat.le_of_ble_eq_true rfl) dX9_taken_41 ⟨Nat.le_of_ble_eq_true rfl, Nat.le_of_ble_eq_true rfl⟩) hS (fun _ h => h) (fun r_41 M_41 H locs hw hP hS _ _ => ?_)
        refine lv_if_eq (tgt := 282) hx hb dX9_taken_44 (by decide) (fun hc44 => ?_) (fun hc44 => ?_)
        · replace hw := hw.1 hc44
          exact J282 q3 x5 M_41 _ _ _ hw hP hS (lv_sub hl [0, 1, 2, 3, 4] rfl)
        · replace hw := hw.2 hc44
          refine lv_aload_n hx hb dX9_taken_47 rfl (lv_at hl 0 rfl) ?_
          refine rt_get F hP.1 (rt_c9 _ rt_k6) (rt_l9 rt_k6) inX9 rfl 10 (by decide) kw_1022 rfl rfl dX9_taken_48 ?_
          refine rt_getN F hP.1 (rt_c12 _ rt_k0) (rt_l12 rt_k0) inX12 rfl 1 (by decide) kw_1141 rfl rfl dX9_taken_51 ?_
          refine lv_iload hx hb dX9_taken_54 (lv_at hl 4 rfl) ?_
          refine rt_calliL hP (rt_runV (n := 1) (As := [.int x5]) (rest := []) F hP.1 hN hS (rt_frs hS.1) (rt_c8 _ rt_k1) (rt_l8 rt_k1) rfl (mtX8_isLeaf l D cA ad hI _ x5 M_41 _ hw) kw_1372 kw_1369 kw_61 kw_1370 kw_1371 ⟨by decide, by decide, by decide +kernel⟩ ⟨rfl, rfl, Nat.le_of_ble_eq_true rfl, Nat.le_of_ble_eq_true rfl⟩ rfl hl.1 rfl (Nat.le_of_ble_eq_true rfl) dX9_taken_56 ⟨Nat.le_of_ble_eq_true rfl, Nat.le_of_ble_eq_true rfl⟩) hS (fun _ h => h) (fun r_56 M_56 H locs hw hP hS _ _ => ?_)
          refine lv_if_ne (tgt := 65) hx hb dX9_taken_59 (by decide) (fun hc59 => ?_) (fun hc59 => ?_)
          · replace hw := hw.1 hc59
            refine lv_aload_n hx hb dX9_taken_65 rfl (lv_at hl 0 rfl) ?_
            refine lv_iload hx hb dX9_taken_66 (lv_at hl 4 rfl) ?_
            refine lv_iload_n hx hb dX9_taken_68 rfl (lv_at hl 1 rfl) ?_
            refine lv_iload_n hx hb dX9_taken_69 rfl (lv_at hl 2 rfl) ?_
            refine rt_calliL hP (rt_runV (n := 3) (As := [.int x5, .int p1, .int p2]) (rest := []) F hP.1 hN hS (rt_frs hS.1) (rt_c9 _ rt_k6) (rt_l9 rt_k6) rfl (mtX9_chosen l D cA ad hI _ x5 p1 p2 M_56 _ hw) kw_1376 kw_1373 kw_65 kw_1375 kw_37 ⟨by decide, by decide, by decide +kernel⟩ ⟨rfl, rfl, Nat.le_of_ble_eq_true rfl, Nat.le_of_ble_eq_true rfl⟩ rfl hl.1 rfl (Nat.le_of_ble_eq_true rfl) dX9_taken_70 ⟨Nat.le_of_ble_eq_true rfl, Nat.le_of_ble_eq_true rfl⟩) hS (fun _ h => h) (fun r_70 M_70 H locs hw hP hS _ _ => ?_)
            refine lv_istore (lv' := [(6, .int r_70), (0, .ref (ad 6)), (1, .int p1), (2, .int p2), (3, .ref q3), (5, .int x5)]) hx hb dX9_taken_73 hl (by decide) rfl (fun ls hl => ?_)
            refine lv_iload hx hb dX9_taken_75 (lv_at hl 0 rfl) ?_
            refine lv_iconst (v := (-1)) hx hb dX9_taken_77 (by decide) ?_
            refine lv_icmp_eq (tgt := 282) hx hb dX9_taken_78 (by decide) (fun hc78 => ?_) (fun hc78 => ?_)
            · replace hw := hw.1 hc78
              exact J282 q3 x5 M_70 _ _ _ hw hP hS (lv_sub hl [1, 2, 3, 4, 5] rfl)
            · replace hw := hw.2 hc78
              exact hw.elim
          · replace hw := hw.2 hc59
            refine lv_goto (tgt := 282) hx hb dX9_taken_62 (by decide) ?_
            exact J282 q3 x5 M_56 _ _ _ hw hP hS (lv_sub hl [0, 1, 2, 3, 4] rfl)
  unfold wpX9_taken at hw
  replace hP : va_P D pt_cl (([] : va_W) ++ [((ad 0), .inr (12, [.int (M 0 0), .ref (ad 1), .ref (ad 6), .ref (ad 12), .int (M 0 4)])), ((ad 1), .inr (8, [.ref (ad 2), .ref (ad 5)])), ((ad 2), .inr (13, [.int (M 2 0), .ref (ad 3), .int (M 2 2)])), ((ad 3), .inl (cA 4, 10, .inr (.inr (.inr (.inr (fun i => if i = 0 then some (ad 4) else none)))))), ((ad 4), .inr (10, [.int (M 4 0), .int (M 4 1), .int (M 4 2), .ref (ad 13), .ref (ad 13)])), ((ad 5), .inr (13, [.int (M 5 0), .ref (ad 14), .int (M 5 2)])), ((ad 6), .inr (9, [.int (M 6 0), .int (M 6 1), .ref (ad 7), .ref (ad 8), .ref (ad 9), .ref (ad 10), .ref (ad 11), .int (M 6 7), .int (M 6 8), .int (M 6 9), .ref (ad 0)])), ((ad 7), .inl (cA 0, 20, .inl (M 7))), ((ad 8), .inl (cA 0, 20, .inl (M 8))), ((ad 9), .inl (cA 0, 4, .inl (M 9))), ((ad 10), .inl (cA 0, 30, .inl (M 10))), ((ad 11), .inr (13, [.int (M 11 0), .ref (ad 14), .int (M 11 2)])), ((ad 12), .inl (cA 0, 0, .inl (M 12)))]) s.heap := hP
  replace hD : va_D (rt_fr ad s.heap.size) (([] : va_W) ++ [((ad 0), .inr (12, [.int (M 0 0), .ref (ad 1), .ref (ad 6), .ref (ad 12), .int (M 0 4)])), ((ad 1), .inr (8, [.ref (ad 2), .ref (ad 5)])), ((ad 2), .inr (13, [.int (M 2 0), .ref (ad 3), .int (M 2 2)])), ((ad 3), .inl (cA 4, 10, .inr (.inr (.inr (.inr (fun i => if i = 0 then some (ad 4) else none)))))), ((ad 4), .inr (10, [.int (M 4 0), .int (M 4 1), .int (M 4 2), .ref (ad 13), .ref (ad 13)])), ((ad 5), .inr (13, [.int (M 5 0), .ref (ad 14), .int (M 5 2)])), ((ad 6), .inr (9, [.int (M 6 0), .int (M 6 1), .ref (ad 7), .ref (ad 8), .ref (ad 9), .ref (ad 10), .ref (ad 11), .int (M 6 7), .int (M 6 8), .int (M 6 9), .ref (ad 0)])), ((ad 7), .inl (cA 0, 20, .inl (M 7))), ((ad 8), .inl (cA 0, 20, .inl (M 8))), ((ad 9), .inl (cA 0, 4, .inl (M 9))), ((ad 10), .inl (cA 0, 30, .inl (M 10))), ((ad 11), .inr (13, [.int (M 11 0), .ref (ad 14), .int (M 11 2)])), ((ad 12), .inl (cA 0, 0, .inl (M 12)))]) := hD M
  have hA : ∀ q, s.heap.size ≤ q → rt_fr ad s.heap.size q := fun q h => Or.inr h
  have s_cb : 2 ≤ (headSpec (Cond.code yX9_taken cX9_taken 9 (some (.object "java/util/ArrayList")) :: lw_all) ({ frames := 6, cells := 2, slots := 33, locals := 129 } : Room)).room.cells := (Nat.le_of_ble_eq_true rfl)
  have s_sb : 33 ≤ (headSpec (Cond.code yX9_taken cX9_taken 9 (some (.object "java/util/ArrayList")) :: lw_all) ({ frames := 6, cells := 2, slots := 33, locals := 129 } : Room)).room.slots := (Nat.le_of_ble_eq_true rfl)
  refine pt_ynew (ci := 13) (fs := [.int 0, .null, .int 0]) F hP hD hS hA inX13 tyJx4a65c tyJx4a65c_ok kw_1001 kw_959 kw_64 rfl (fun j hj => by rcases (show j = 0 ∨ j = 1 ∨ j = 2 by omega) with rfl | rfl | rfl <;> rfl) (Nat.le_trans (Nat.le_of_ble_eq_true rfl) s_cb) (Nat.le_trans (Nat.le_of_ble_eq_true rfl) s_sb) dX9_taken_0 (fun q0 H hP hD hS => ?_)
  replace hP : va_P D pt_cl (([] : va_W) ++ [((ad 0), .inr (12, [.int (M 0 0), .ref (ad 1), .ref (ad 6), .ref (ad 12), .int (M 0 4)])), ((ad 1), .inr (8, [.ref (ad 2), .ref (ad 5)])), ((ad 2), .inr (13, [.int (M 2 0), .ref (ad 3), .int (M 2 2)])), ((ad 3), .inl (cA 4, 10, .inr (.inr (.inr (.inr (fun i => if i = 0 then some (ad 4) else none)))))), ((ad 4), .inr (10, [.int (M 4 0), .int (M 4 1), .int (M 4 2), .ref (ad 13), .ref (ad 13)])), ((ad 5), .inr (13, [.int (M 5 0), .ref (ad 14), .int (M 5 2)])), ((ad 6), .inr (9, [.int (M 6 0), .int (M 6 1), .ref (ad 7), .ref (ad 8), .ref (ad 9), .ref (ad 10), .ref (ad 11), .int (M 6 7), .int (M 6 8), .int (M 6 9), .ref (ad 0)])), ((ad 7), .inl (cA 0, 20, .inl (M 7))), ((ad 8), .inl (cA 0, 20, .inl (M 8))), ((ad 9), .inl (cA 0, 4, .inl (M 9))), ((ad 10), .inl (cA 0, 30, .inl (M 10))), ((ad 11), .inr (13, [.int (M 11 0), .ref (ad 14), .int (M 11 2)])), ((ad 12), .inl (cA 0, 0, .inl (M 12))), (q0, .inr (13, [.int 0, .null, .int 0]))]) H := hP
  replace hD : va_D (rt_fr ad s.heap.size) (([] : va_W) ++ [((ad 0), .inr (12, [.int (M 0 0), .ref (ad 1), .ref (ad 6), .ref (ad 12), .int (M 0 4)])), ((ad 1), .inr (8, [.ref (ad 2), .ref (ad 5)])), ((ad 2), .inr (13, [.int (M 2 0), .ref (ad 3), .int (M 2 2)])), ((ad 3), .inl (cA 4, 10, .inr (.inr (.inr (.inr (fun i => if i = 0 then some (ad 4) else none)))))), ((ad 4), .inr (10, [.int (M 4 0), .int (M 4 1), .int (M 4 2), .ref (ad 13), .ref (ad 13)])), ((ad 5), .inr (13, [.int (M 5 0), .ref (ad 14), .int (M 5 2)])), ((ad 6), .inr (9, [.int (M 6 0), .int (M 6 1), .ref (ad 7), .ref (ad 8), .ref (ad 9), .ref (ad 10), .ref (ad 11), .int (M 6 7), .int (M 6 8), .int (M 6 9), .ref (ad 0)])), ((ad 7), .inl (cA 0, 20, .inl (M 7))), ((ad 8), .inl (cA 0, 20, .inl (M 8))), ((ad 9), .inl (cA 0, 4, .inl (M 9))), ((ad 10), .inl (cA 0, 30, .inl (M 10))), ((ad 11), .inr (13, [.int (M 11 0), .ref (ad 14), .int (M 11 2)])), ((ad 12), .inl (cA 0, 0, .inl (M 12))), (q0, .inr (13, [.int 0, .null, .int 0]))]) := hD
  refine W.widen (k := 1) (n := 3) (Nat.le_of_ble_eq_true rfl) (Nat.le_of_ble_eq_true rfl) ?_
  refine lv_dup hx hb dX9_taken_3 rfl ?_
  refine sx_callv (wc := [(q0, .inr (13, [.int 0, .null, .int 0]))]) (wr := [((ad 0), .inr (12, [.int (M 0 0), .ref (ad 1), .ref (ad 6), .ref (ad 12), .int (M 0 4)])), ((ad 1), .inr (8, [.ref (ad 2), .ref (ad 5)])), ((ad 2), .inr (13, [.int (M 2 0), .ref (ad 3), .int (M 2 2)])), ((ad 3), .inl (cA 4, 10, .inr (.inr (.inr (.inr (fun i => if i = 0 then some (ad 4) else none)))))), ((ad 4), .inr (10, [.int (M 4 0), .int (M 4 1), .int (M 4 2), .ref (ad 13), .ref (ad 13)])), ((ad 5), .inr (13, [.int (M 5 0), .ref (ad 14), .int (M 5 2)])), ((ad 6), .inr (9, [.int (M 6 0), .int (M 6 1), .ref (ad 7), .ref (ad 8), .ref (ad 9), .ref (ad 10), .ref (ad 11), .int (M 6 7), .int (M 6 8), .int (M 6 9), .ref (ad 0)])), ((ad 7), .inl (cA 0, 20, .inl (M 7))), ((ad 8), .inl (cA 0, 20, .inl (M 8))), ((ad 9), .inl (cA 0, 4, .inl (M 9))), ((ad 10), .inl (cA 0, 30, .inl (M 10))), ((ad 11), .inr (13, [.int (M 11 0), .ref (ad 14), .int (M 11 2)])), ((ad 12), .inl (cA 0, 0, .inl (M 12)))]) (pt_krun (n := 0) (As := []) (rest := [.ref q0]) F (mtLI l D cA _ (ad 13) (ad 14) q0 ) sx_blind (sx_pre (wc := [(q0, .inr (13, [.int 0, .null, .int 0]))]) F hP hD hN hS hA [13] rfl rfl) kw_962 (Or.inl kw_1002) kw_64 kw_961 rfl ⟨by decide, by decide, by decide +kernel⟩ ⟨rfl, rfl, (Nat.le_of_ble_eq_true rfl), (Nat.le_of_ble_eq_true rfl)⟩ rfl hl.1 rfl (Nat.le_of_ble_eq_true rfl) dX9_taken_4 ⟨(Nat.le_trans (Nat.le_of_ble_eq_true rfl) s_cb), (Nat.le_trans (Nat.le_of_ble_eq_true rfl) s_sb)⟩) hP hD hS hA [13] [0, 1, 2, 3, 4, 5, 6, 7, 8, 9, 10, 11, 12] rfl rfl rfl (by decide) (fun _ H locs _ hP hD hS => ?_)
  replace hP : va_P D pt_cl (([] : va_W) ++ [((ad 0), .inr (12, [.int (M 0 0), .ref (ad 1), .ref (ad 6), .ref (ad 12), .int (M 0 4)])), ((ad 1), .inr (8, [.ref (ad 2), .ref (ad 5)])), ((ad 2), .inr (13, [.int (M 2 0), .ref (ad 3), .int (M 2 2)])), ((ad 3), .inl (cA 4, 10, .inr (.inr (.inr (.inr (fun i => if i = 0 then some (ad 4) else none)))))), ((ad 4), .inr (10, [.int (M 4 0), .int (M 4 1), .int (M 4 2), .ref (ad 13), .ref (ad 13)])), ((ad 5), .inr (13, [.int (M 5 0), .ref (ad 14), .int (M 5 2)])), ((ad 6), .inr (9, [.int (M 6 0), .int (M 6 1), .ref (ad 7), .ref (ad 8), .ref (ad 9), .ref (ad 10), .ref (ad 11), .int (M 6 7), .int (M 6 8), .int (M 6 9), .ref (ad 0)])), ((ad 7), .inl (cA 0, 20, .inl (M 7))), ((ad 8), .inl (cA 0, 20, .inl (M 8))), ((ad 9), .inl (cA 0, 4, .inl (M 9))), ((ad 10), .inl (cA 0, 30, .inl (M 10))), ((ad 11), .inr (13, [.int (M 11 0), .ref (ad 14), .int (M 11 2)])), ((ad 12), .inl (cA 0, 0, .inl (M 12))), (q0, .inr (13, [.int 0, .ref (ad 14), .int 0]))]) H := hP
  replace hD : va_D (rt_fr ad s.heap.size) (([] : va_W) ++ [((ad 0), .inr (12, [.int (M 0 0), .ref (ad 1), .ref (ad 6), .ref (ad 12), .int (M 0 4)])), ((ad 1), .inr (8, [.ref (ad 2), .ref (ad 5)])), ((ad 2), .inr (13, [.int (M 2 0), .ref (ad 3), .int (M 2 2)])), ((ad 3), .inl (cA 4, 10, .inr (.inr (.inr (.inr (fun i => if i = 0 then some (ad 4) else none)))))), ((ad 4), .inr (10, [.int (M 4 0), .int (M 4 1), .int (M 4 2), .ref (ad 13), .ref (ad 13)])), ((ad 5), .inr (13, [.int (M 5 0), .ref (ad 14), .int (M 5 2)])), ((ad 6), .inr (9, [.int (M 6 0), .int (M 6 1), .ref (ad 7), .ref (ad 8), .ref (ad 9), .ref (ad 10), .ref (ad 11), .int (M 6 7), .int (M 6 8), .int (M 6 9), .ref (ad 0)])), ((ad 7), .inl (cA 0, 20, .inl (M 7))), ((ad 8), .inl (cA 0, 20, .inl (M 8))), ((ad 9), .inl (cA 0, 4, .inl (M 9))), ((ad 10), .inl (cA 0, 30, .inl (M 10))), ((ad 11), .inr (13, [.int (M 11 0), .ref (ad 14), .int (M 11 2)])), ((ad 12), .inl (cA 0, 0, .inl (M 12))), (q0, .inr (13, [.int 0, .ref (ad 14), .int 0]))]) := hD
  refine W.widen (k := 1) (n := 3) (Nat.le_of_ble_eq_true rfl) (Nat.le_of_ble_eq_true rfl) ?_
  refine lv_astore_n (lv' := [(3, .ref q0), (0, .ref (ad 6)), (1, .int p1), (2, .int p2)]) hx hb dX9_taken_7 rfl hl (by decide) rfl (fun ls hl => ?_)
  refine lv_bipush (v := 30) hx hb dX9_taken_8 (by decide) ?_
  refine sx_znew (N := 30) F hP hD hS hA kw_1440 (by decide) (by decide) (by decide) (Nat.le_trans (Nat.le_of_ble_eq_true rfl) s_cb) (Nat.le_trans (Nat.le_of_ble_eq_true rfl) s_sb) dX9_taken_10 (fun q10 H hP hD hS => ?_)
  replace hP : va_P D pt_cl (([] : va_W) ++ [((ad 0), .inr (12, [.int (M 0 0), .ref (ad 1), .ref (ad 6), .ref (ad 12), .int (M 0 4)])), ((ad 1), .inr (8, [.ref (ad 2), .ref (ad 5)])), ((ad 2), .inr (13, [.int (M 2 0), .ref (ad 3), .int (M 2 2)])), ((ad 3), .inl (cA 4, 10, .inr (.inr (.inr (.inr (fun i => if i = 0 then some (ad 4) else none)))))), ((ad 4), .inr (10, [.int (M 4 0), .int (M 4 1), .int (M 4 2), .ref (ad 13), .ref (ad 13)])), ((ad 5), .inr (13, [.int (M 5 0), .ref (ad 14), .int (M 5 2)])), ((ad 6), .inr (9, [.int (M 6 0), .int (M 6 1), .ref (ad 7), .ref (ad 8), .ref (ad 9), .ref (ad 10), .ref (ad 11), .int (M 6 7), .int (M 6 8), .int (M 6 9), .ref (ad 0)])), ((ad 7), .inl (cA 0, 20, .inl (M 7))), ((ad 8), .inl (cA 0, 20, .inl (M 8))), ((ad 9), .inl (cA 0, 4, .inl (M 9))), ((ad 10), .inl (cA 0, 30, .inl (M 10))), ((ad 11), .inr (13, [.int (M 11 0), .ref (ad 14), .int (M 11 2)])), ((ad 12), .inl (cA 0, 0, .inl (M 12))), (q0, .inr (13, [.int 0, .ref (ad 14), .int 0])), (q10, .inl (cA 5, 30, .inl (fun _ => 0)))]) H := hP
  replace hD : va_D (rt_fr ad s.heap.size) (([] : va_W) ++ [((ad 0), .inr (12, [.int (M 0 0), .ref (ad 1), .ref (ad 6), .ref (ad 12), .int (M 0 4)])), ((ad 1), .inr (8, [.ref (ad 2), .ref (ad 5)])), ((ad 2), .inr (13, [.int (M 2 0), .ref (ad 3), .int (M 2 2)])), ((ad 3), .inl (cA 4, 10, .inr (.inr (.inr (.inr (fun i => if i = 0 then some (ad 4) else none)))))), ((ad 4), .inr (10, [.int (M 4 0), .int (M 4 1), .int (M 4 2), .ref (ad 13), .ref (ad 13)])), ((ad 5), .inr (13, [.int (M 5 0), .ref (ad 14), .int (M 5 2)])), ((ad 6), .inr (9, [.int (M 6 0), .int (M 6 1), .ref (ad 7), .ref (ad 8), .ref (ad 9), .ref (ad 10), .ref (ad 11), .int (M 6 7), .int (M 6 8), .int (M 6 9), .ref (ad 0)])), ((ad 7), .inl (cA 0, 20, .inl (M 7))), ((ad 8), .inl (cA 0, 20, .inl (M 8))), ((ad 9), .inl (cA 0, 4, .inl (M 9))), ((ad 10), .inl (cA 0, 30, .inl (M 10))), ((ad 11), .inr (13, [.int (M 11 0), .ref (ad 14), .int (M 11 2)])), ((ad 12), .inl (cA 0, 0, .inl (M 12))), (q0, .inr (13, [.int 0, .ref (ad 14), .int 0])), (q10, .inl (cA 5, 30, .inl (fun _ => 0)))]) := hD
  refine W.widen (k := 2) (n := 33) (Nat.le_of_ble_eq_true rfl) (Nat.le_of_ble_eq_true rfl) ?_
  refine lv_astore (lv' := [(4, .ref q10), (3, .ref q0), (0, .ref (ad 6)), (1, .int p1), (2, .int p2)]) hx hb dX9_taken_12 hl (by decide) rfl (fun ls hl => ?_)
  replace hP : rt_L D cA ad s.heap.size q0 M H := rt_Lmk (hP.sub [0, 1, 2, 3, 4, 5, 6, 7, 8, 9, 10, 11, 12] rfl) (hP.sub [13] rfl) (hD.sub [0, 1, 2, 3, 4, 5, 6, 7, 8, 9, 10, 11, 12, 13] rfl rfl)
  replace hl := lv_sub hl [1, 2, 3, 4] rfl
  replace hw := hw q0
  refine lv_iconst (v := 0) hx hb dX9_taken_14 (by decide) ?_
  refine lv_istore (lv' := [(5, .int 0), (3, .ref q0), (0, .ref (ad 6)), (1, .int p1), (2, .int p2)]) hx hb dX9_taken_15 hl (by decide) rfl (fun ls hl => ?_)
  obtain ⟨n_, hw⟩ := hw
  exact L17 n_ q0 0 M _ _ _ hw hP hS (lv_sub hl [2, 3, 4, 1, 0] rfl)
-- ===== X9_step
def wjX9_step_243 (p1 : Int32) (p2 : Int32) (Q : Int32 → pt_M → Prop) (R185 : Nat → Int32 → Int32 → pt_M → Prop) (q3 : Nat) (x4 : Int32) (x5 : Int32) (M : pt_M) : Prop :=
  ∀ x5_243 : Int32, x5_243 = x5 + (-1) → R185 q3 x4 x5_243 M
def lbX9_step_185 (p1 : Int32) (p2 : Int32) (Q : Int32 → pt_M → Prop)  (R185 : Nat → Int32 → Int32 → pt_M → Prop) (q3 : Nat) (x4 : Int32) (x5 : Int32) (M : pt_M) : Prop :=
  (x5 < 0 → ((0 : Int32) ≤ 0 → ((0 : Int32) ≤ 0 → wpX9_enter 0 M (fun (M_363 : pt_M) => ((0 : Int32) ≤ 0 → Q (0 : Int32) M_363) ∧ (¬ (0 : Int32) ≤ 0 → False))) ∧ (¬ (0 : Int32) ≤ 0 → False)) ∧ (¬ (0 : Int32) ≤ 0 → False)) ∧ (¬ x5 < 0 → wpX12_has x4 x5 M (fun (r_194 : Int32) (M_194 : pt_M) => (¬ r_194 = 0 → ∀ M_215 : pt_M, M_215 = pt_st M_194 6 1 ((M_194 6 1) &&& ((1 <<< (x5 &&& 31)) ^^^ (-1))) → wpJx4a65c_get_915e3 x5 M_215 (fun (M_231 : pt_M) => wpX9_act M_231 (fun (M_240 : pt_M) => wjX9_step_243 p1 p2 Q R185 q3 x4 x5 M_240))) ∧ (r_194 = 0 → wjX9_step_243 p1 p2 Q R185 q3 x4 x5 M_194)))
def lpX9_step_185 (p1 : Int32) (p2 : Int32) (Q : Int32 → pt_M → Prop)  : Nat → Nat → Int32 → Int32 → pt_M → Prop
  | 0 => fun _ _ _ _ => False
  | n + 1 => fun q3 x4 x5 M => lbX9_step_185 p1 p2 Q (lpX9_step_185 p1 p2 Q n) q3 x4 x5 M
def wjX9_step_162 (p1 : Int32) (p2 : Int32) (Q : Int32 → pt_M → Prop) (R52 : Nat → Int32 → Int32 → pt_M → Prop) (q3 : Nat) (x4 : Int32) (x5 : Int32) (M : pt_M) : Prop :=
  ∀ x5_162 : Int32, x5_162 = x5 + 1 → R52 q3 x4 x5_162 M
def lbX9_step_52 (p1 : Int32) (p2 : Int32) (Q : Int32 → pt_M → Prop)  (R52 : Nat → Int32 → Int32 → pt_M → Prop) (q3 : Nat) (x4 : Int32) (x5 : Int32) (M : pt_M) : Prop :=
  wpJx4a65c_size_8abf5 2 M (fun (r_64 : Int32) (M_64 : pt_M) => (r_64 ≤ x5 → wpJx4a65c_size_8abf5 2 M_64 (fun (r_178 : Int32) (M_178 : pt_M) => ∀ x5_183 : Int32, x5_183 = (r_178 - 1) → ∃ n : Nat, lpX9_step_185 p1 p2 Q n q3 x4 x5_183 M_178)) ∧ (¬ r_64 ≤ x5 → wpJx4a65c_get_915e3 x5 M_64 (fun (M_82 : pt_M) => wpX10_isMark M_82 (fun (r_92 : Int32) (M_92 : pt_M) => (r_92 = 0 → wjX9_step_162 p1 p2 Q R52 q3 x4 x5 M_92) ∧ (¬ r_92 = 0 → wpX12_has x4 (M_92 4 0) M_92 (fun (r_105 : Int32) (M_105 : pt_M) => (¬ r_105 = 0 → (¬ (M_105 4 1) = 3 → False) ∧ ((M_105 4 1) = 3 → wpX8_parts (M_105 4 0) M_105 (fun (r_145 : Int32) (M_145 : pt_M) => vp_in x5 20 ∧ ∀ M_161 : pt_M, M_161 = pt_st M_145 8 (Int32.toNatClampNeg x5) ((M_105 6 1) &&& r_145) → wjX9_step_162 p1 p2 Q R52 q3 x4 x5 M_161))) ∧ (r_105 = 0 → wjX9_step_162 p1 p2 Q R52 q3 x4 x5 M_105)))))))
def lpX9_step_52 (p1 : Int32) (p2 : Int32) (Q : Int32 → pt_M → Prop)  : Nat → Nat → Int32 → Int32 → pt_M → Prop
  | 0 => fun _ _ _ _ => False
  | n + 1 => fun q3 x4 x5 M => lbX9_step_52 p1 p2 Q (lpX9_step_52 p1 p2 Q n) q3 x4 x5 M
def wpX9_step (p1 : Int32) (p2 : Int32) (M : pt_M) (Q : Int32 → pt_M → Prop) : Prop :=
  wpX9_taken p1 p2 M (fun (M_3 : pt_M) => ∀ q_3 : Nat, ((0 : Int32) ≤ 0 → ∃ n : Nat, lpX9_step_52 p1 p2 Q n q_3 0 0 M_3) ∧ (¬ (0 : Int32) ≤ 0 → False))
set_option maxHeartbeats 4000000 in
set_option maxRecDepth 100000 in
theorem mtX9_step (l : Launch) (D : va_G) (cA : Nat → ClassId) (ad : Nat → Nat) (hI : rt_I ad) (sz : Nat) (p1 : Int32) (p2 : Int32) (M : pt_M) (Q : Int32 → pt_M → Prop) (hw : wpX9_step p1 p2 M Q) : Met l yX9_step (Cond.code yX9_step cX9_step 7 (some .int) :: lw_all) ({ frames := 7, cells := 2, slots := 33, locals := 157 } : Room) (va_Pc [.ref (ad 6), .int p1, .int p2] (rt_P D cA ad sz M)) (va_Qi Q (rt_B D cA ad) (rt_fr ad sz)) 2 33 (rt_fr ad sz) := by
  refine Met.ofW (cc := cX9_step) (maxL := 7) (ret := (some .int)) (by decide) rfl ?_
  intro p e s m args below meth c s₁ B hml hv
  obtain ⟨rfl, hsz, hP, hK, hN⟩ := hv
  have hx := B.exec
  have hb := B.bytes
  have hr := B.returns
  have hts0 := atoms_spec (ws := (Cond.code yX9_step cX9_step 7 (some .int) :: lw_all)) B.pre
  have hown : s.vm.findClass RX9 = some m.cls := findClass_of_methodNamed B.named
  have hlocks := B.notSynchronized
  subst hsz
  have F : pt_F p m c cX9_step 7 s _ RX9 D cA := ⟨⟨hx, hb, hml, hown, fun w h => hts0 w (List.mem_cons_of_mem _ h)⟩, hK⟩
  have hD : ∀ M, va_D (rt_fr ad s.heap.size) (rt_W cA ad M) := rt_D hI (fun k h => Or.inl ⟨k, h, rfl⟩)
  have hS : va_S (rt_fr ad s.heap.size) s.heap s.heap [] := va_S.rf
  have hl := lv_entry ([.ref (ad 6), .int p1, .int p2]) (n := 7) (Nat.le_of_ble_eq_true rfl)
  rw [lg_entry_eq]
  generalize (lg_sl ([.ref (ad 6), .int p1, .int p2]) ++ List.replicate (7 - (lg_sl ([.ref (ad 6), .int p1, .int p2])).length) Slot.unset).toArray = ls at hl ⊢
  have hl : lv_has ls 7 [(0, .ref (ad 6)), (1, .int p1), (2, .int p2)] := hl
  have L185 : ∀ (n185 : Nat) (q3 : Nat) (x4 : Int32) (x5 : Int32) (M : pt_M) (H : Heap) (locs : List Loc) (ls : Array Slot), lpX9_step_185 p1 p2 Q n185 q3 x4 x5 M → rt_L D cA ad s.heap.size q3 M H → va_S (rt_fr ad s.heap.size) s.heap H locs → lv_has ls 7 [(0, .ref (ad 6)), (3, .ref q3), (4, .int x4), (5, .int x5)] → W p l e (headSpec (Cond.code yX9_step cX9_step 7 (some .int) :: lw_all) ({ frames := 7, cells := 2, slots := 33, locals := 157 } : Room)).room s m ([.ref (ad 6), .int p1, .int p2] : List Value).toArray below meth c H locs 2 33 (MQ below (va_Qi Q (rt_B D cA ad) (rt_fr ad s.heap.size)) ([.ref (ad 6), .int p1, .int p2] : List Value).toArray s 2 33 (rt_fr ad s.heap.size)) (F0 m 185 ls []) := by
    intro n185
    induction n185 with
    | zero => intro q3 x4 x5 M H locs ls hw; exact hw.elim
    | succ n185 ih185 =>
      have J243 : ∀ (q3 : Nat) (x4 : Int32) (x5 : Int32) (M : pt_M) (H : Heap) (locs : List Loc) (ls : Array Slot), wjX9_step_243 p1 p2 Q (lpX9_step_185 p1 p2 Q n185) q3 x4 x5 M → rt_L D cA ad s.heap.size q3 M H → va_S (rt_fr ad s.heap.size) s.heap H locs → lv_has ls 7 [(0, .ref (ad 6)), (3, .ref q3), (4, .int x4), (5, .int x5)] → W p l e (headSpec (Cond.code yX9_step cX9_step 7 (some .int) :: lw_all) ({ frames := 7, cells := 2, slots := 33, locals := 157 } : Room)).room s m ([.ref (ad 6), .int p1, .int p2] : List Value).toArray below meth c H locs 2 33 (MQ below (va_Qi Q (rt_B D cA ad) (rt_fr ad s.heap.size)) ([.ref (ad 6), .int p1, .int p2] : List Value).toArray s 2 33 (rt_fr ad s.heap.size)) (F0 m 243 ls []) := by
        intro q3 x4 x5 M H locs ls hw hP hS hl
        unfold wjX9_step_243 at hw
        obtain ⟨x5_243, ex5_243⟩ : ∃ y : Int32, y = x5 + (-1) := ⟨_, rfl⟩
        replace hw := hw x5_243 ex5_243
        refine lv_iinc (v := x5_243) (lv' := [(5, .int x5_243), (0, .ref (ad 6)), (3, .ref q3), (4, .int x4)]) hx hb dX9_step_243 hl (k := 3) rfl (by rw [ex5_243]; rfl) (by decide) rfl (fun ls hl => ?_)
        refine lv_goto (tgt := 185) hx hb dX9_step_246 (by decide) ?_
        exact ih185 q3 x4 x5_243 M _ _ _ hw hP hS (lv_sub hl [1, 2, 3, 0] rfl)
      intro q3 x4 x5 M H locs ls hw hP hS hl
      replace hw : lbX9_step_185 p1 p2 Q (lpX9_step_185 p1 p2 Q n185) q3 x4 x5 M := hw
      unfold lbX9_step_185 at hw
      refine lv_iload hx hb dX9_step_185 (lv_at hl 3 rfl) ?_
      refine lv_if_lt (tgt := 249) hx hb dX9_step_187 (by decide) (fun hc187 => ?_) (fun hc187 => ?_)
      · replace hw := hw.1 hc187
        refine lv_iconst (v := 0) hx hb dX9_step_249 (by decide) ?_
        refine lv_istore (lv' := [(5, .int 0), (0, .ref (ad 6)), (3, .ref q3), (4, .int x4)]) hx hb dX9_step_250 hl (by decide) rfl (fun ls hl => ?_)
        refine lv_iload hx hb dX9_step_252 (lv_at hl 0 rfl) ?_
        refine lv_aload_n hx hb dX9_step_254 rfl (lv_at hl 2 rfl) ?_
        refine rt_callpL (sx_runV (n := 0) (As := []) (rest := [.int 0]) F hP.2.1 0 rfl rfl (mtSZ0 l D cA q3 0 (ad 14) 0) rt_szblind (fun U hU hW => ⟨by rw [hU]; exact hP.2.1, va_K.moved hW.alike F.2⟩) kw_1167 kw_1320 kw_64 kw_1165 kw_1166 ⟨by decide, by decide, by decide +kernel⟩ ⟨rfl, rfl, (Nat.le_of_ble_eq_true rfl), (Nat.le_of_ble_eq_true rfl)⟩ rfl hl.1 rfl (Nat.le_of_ble_eq_true rfl) dX9_step_255 ⟨(Nat.le_of_ble_eq_true rfl), (Nat.le_of_ble_eq_true rfl)⟩) hP hS (fun r_255 H locs e_255 hP hS => ?_)
        obtain rfl := e_255
        refine lv_icmp_ge (tgt := 302) hx hb dX9_step_258 (by decide) (fun hc258 => ?_) (fun hc258 => ?_)
        · replace hw := hw.1 hc258
          refine lv_iconst (v := 0) hx hb dX9_step_302 (by decide) ?_
          refine lv_istore (lv' := [(5, .int 0), (0, .ref (ad 6)), (3, .ref q3), (4, .int x4)]) hx hb dX9_step_303 hl (by decide) rfl (fun ls hl => ?_)
          refine lv_iconst (v := 0) hx hb dX9_step_305 (by decide) ?_
          refine lv_istore (lv' := [(6, .int 0), (5, .int 0), (0, .ref (ad 6)), (3, .ref q3), (4, .int x4)]) hx hb dX9_step_306 hl (by decide) rfl (fun ls hl => ?_)
          refine lv_iload hx hb dX9_step_308 (lv_at hl 0 rfl) ?_
          refine lv_aload_n hx hb dX9_step_310 rfl (lv_at hl 3 rfl) ?_
          refine rt_callpL (sx_runV (n := 0) (As := []) (rest := [.int 0]) F hP.2.1 0 rfl rfl (mtSZ0 l D cA q3 0 (ad 14) 0) rt_szblind (fun U hU hW => ⟨by rw [hU]; exact hP.2.1, va_K.moved hW.alike F.2⟩) kw_1167 kw_1320 kw_64 kw_1165 kw_1166 ⟨by decide, by decide, by decide +kernel⟩ ⟨rfl, rfl, (Nat.le_of_ble_eq_true rfl), (Nat.le_of_ble_eq_true rfl)⟩ rfl hl.1 rfl (Nat.le_of_ble_eq_true rfl) dX9_step_311 ⟨(Nat.le_of_ble_eq_true rfl), (Nat.le_of_ble_eq_true rfl)⟩) hP hS (fun r_311 H locs e_311 hP hS => ?_)
          obtain rfl := e_311
          refine lv_icmp_ge (tgt := 360) hx hb dX9_step_314 (by decide) (fun hc314 => ?_) (fun hc314 => ?_)
          · replace hw := hw.1 hc314
            refine lv_aload_n hx hb dX9_step_360 rfl (lv_at hl 2 rfl) ?_
            refine lv_iload hx hb dX9_step_361 (lv_at hl 1 rfl) ?_
            refine rt_callvL hP (rt_runV (n := 1) (As := [.int 0]) (rest := []) F hP.1 hN hS (rt_frs hS.1) (rt_c9 _ rt_k6) (rt_l9 rt_k6) rfl (mtX9_enter l D cA ad hI _ 0 M _ hw) kw_1319 kw_1316 kw_65 kw_1318 kw_32 ⟨by decide, by decide, by decide +kernel⟩ ⟨rfl, rfl, Nat.le_of_ble_eq_true rfl, Nat.le_of_ble_eq_true rfl⟩ rfl hl.1 rfl (Nat.le_of_ble_eq_true rfl) dX9_step_363 ⟨Nat.le_of_ble_eq_true rfl, Nat.le_of_ble_eq_true rfl⟩) hS (fun _ h => h) (fun M_363 H locs hw hP hS _ _ => ?_)
            refine lv_iconst (v := 0) hx hb dX9_step_366 (by decide) ?_
            refine lv_istore (lv' := [(6, .int 0), (5, .int 0), (0, .ref (ad 6)), (3, .ref q3), (4, .int x4)]) hx hb dX9_step_367 hl (by decide) rfl (fun ls hl => ?_)
            refine lv_iload hx hb dX9_step_369 (lv_at hl 0 rfl) ?_
            refine lv_aload_n hx hb dX9_step_371 rfl (lv_at hl 3 rfl) ?_
            refine rt_callpL (sx_runV (n := 0) (As := []) (rest := [.int 0]) F hP.2.1 0 rfl rfl (mtSZ0 l D cA q3 0 (ad 14) 0) rt_szblind (fun U hU hW => ⟨by rw [hU]; exact hP.2.1, va_K.moved hW.alike F.2⟩) kw_1167 kw_1320 kw_64 kw_1165 kw_1166 ⟨by decide, by decide, by decide +kernel⟩ ⟨rfl, rfl, (Nat.le_of_ble_eq_true rfl), (Nat.le_of_ble_eq_true rfl)⟩ rfl hl.1 rfl (Nat.le_of_ble_eq_true rfl) dX9_step_372 ⟨(Nat.le_of_ble_eq_true rfl), (Nat.le_of_ble_eq_true rfl)⟩) hP hS (fun r_372 H locs e_372 hP hS => ?_)
            obtain rfl := e_372
            refine lv_icmp_ge (tgt := 405) hx hb dX9_step_375 (by decide) (fun hc375 => ?_) (fun hc375 => ?_)
            · replace hw := hw.1 hc375
              refine lv_aload_n hx hb dX9_step_405 rfl (lv_at hl 3 rfl) ?_
              refine rt_callpL (sx_runV (n := 0) (As := []) (rest := []) F hP.2.1 0 rfl rfl (mtSZ0 l D cA q3 0 (ad 14) 0) rt_szblind (fun U hU hW => ⟨by rw [hU]; exact hP.2.1, va_K.moved hW.alike F.2⟩) kw_1167 kw_1320 kw_64 kw_1165 kw_1166 ⟨by decide, by decide, by decide +kernel⟩ ⟨rfl, rfl, (Nat.le_of_ble_eq_true rfl), (Nat.le_of_ble_eq_true rfl)⟩ rfl hl.1 rfl (Nat.le_of_ble_eq_true rfl) dX9_step_406 ⟨(Nat.le_of_ble_eq_true rfl), (Nat.le_of_ble_eq_true rfl)⟩) hP hS (fun r_406 H locs e_406 hP hS => ?_)
              obtain rfl := e_406
              exact W.iret (v := (0 : Int32)) hx hb hr (fun t ht hW => ⟨⟨(0 : Int32), M_363, rfl, hw, by unfold rt_B; rw [ht]; exact hP.1⟩, hS.F ht⟩) hS.2.2 dX9_step_409
            · replace hw := hw.2 hc375
              refine lv_aload_n hx hb dX9_step_378 rfl (lv_at hl 2 rfl) ?_
              refine rt_get F hP.1 (rt_c9 _ rt_k6) (rt_l9 rt_k6) inX9 rfl 5 (by decide) kw_1013 rfl rfl dX9_step_379 ?_
              refine lv_aload_n hx hb dX9_step_382 rfl (lv_at hl 3 rfl) ?_
              refine lv_iload hx hb dX9_step_383 (lv_at hl 0 rfl) ?_
              exact hw.elim
          · replace hw := hw.2 hc314
            refine lv_iload hx hb dX9_step_317 (lv_at hl 1 rfl) ?_
            refine lv_aload_n hx hb dX9_step_319 rfl (lv_at hl 2 rfl) ?_
            refine lv_aload_n hx hb dX9_step_320 rfl (lv_at hl 2 rfl) ?_
            refine rt_get F hP.1 (rt_c9 _ rt_k6) (rt_l9 rt_k6) inX9 rfl 10 (by decide) kw_1022 rfl rfl dX9_step_321 ?_
            refine rt_getN F hP.1 (rt_c12 _ rt_k0) (rt_l12 rt_k0) inX12 rfl 1 (by decide) kw_1141 rfl rfl dX9_step_324 ?_
            refine rt_get F hP.1 (rt_c8 _ rt_k1) (rt_l8 rt_k1) inX8 rfl 1 (by decide) kw_989 rfl rfl dX9_step_327 ?_
            refine lv_aload_n hx hb dX9_step_330 rfl (lv_at hl 3 rfl) ?_
            refine lv_iload hx hb dX9_step_331 (lv_at hl 0 rfl) ?_
            exact hw.elim
        · replace hw := hw.2 hc258
          refine lv_aload_n hx hb dX9_step_261 rfl (lv_at hl 1 rfl) ?_
          refine lv_aload_n hx hb dX9_step_262 rfl (lv_at hl 1 rfl) ?_
          refine rt_get F hP.1 (rt_c9 _ rt_k6) (rt_l9 rt_k6) inX9 rfl 10 (by decide) kw_1022 rfl rfl dX9_step_263 ?_
          refine rt_getN F hP.1 (rt_c12 _ rt_k0) (rt_l12 rt_k0) inX12 rfl 1 (by decide) kw_1141 rfl rfl dX9_step_266 ?_
          refine rt_get F hP.1 (rt_c8 _ rt_k1) (rt_l8 rt_k1) inX8 rfl 1 (by decide) kw_989 rfl rfl dX9_step_269 ?_
          refine lv_aload_n hx hb dX9_step_272 rfl (lv_at hl 2 rfl) ?_
          refine lv_iload hx hb dX9_step_273 (lv_at hl 0 rfl) ?_
          exact hw.elim
      · replace hw := hw.2 hc187
        refine lv_iload hx hb dX9_step_190 (lv_at hl 2 rfl) ?_
        refine lv_iload hx hb dX9_step_192 (lv_at hl 3 rfl) ?_
        refine rt_calliL hP (rt_runSN (n := 2) (As := [.int x4, .int x5]) (rest := []) F hP.1 hN hS (rt_frs hS.1) (mtX12_has l D cA ad hI _ x4 x5 M _ hw) kw_1226 kw_1321 kw_60 kw_1225 ⟨by decide, by decide, by decide +kernel⟩ ⟨rfl, rfl, Nat.le_of_ble_eq_true rfl, Nat.le_of_ble_eq_true rfl⟩ rfl hl.1 rfl (Nat.le_of_ble_eq_true rfl) dX9_step_194 ⟨Nat.le_of_ble_eq_true rfl, Nat.le_of_ble_eq_true rfl⟩) hS (fun _ h => h) (fun r_194 M_194 H locs hw hP hS _ _ => ?_)
        refine lv_if_ne (tgt := 203) hx hb dX9_step_197 (by decide) (fun hc197 => ?_) (fun hc197 => ?_)
        · replace hw := hw.1 hc197
          refine lv_aload_n hx hb dX9_step_203 rfl (lv_at hl 0 rfl) ?_
          refine lv_dup hx hb dX9_step_204 rfl ?_
          refine rt_get F hP.1 (rt_c9 _ rt_k6) (rt_l9 rt_k6) inX9 rfl 1 (by decide) kw_1005 rfl rfl dX9_step_205 ?_
          refine lv_iconst (v := 1) hx hb dX9_step_208 (by decide) ?_
          refine lv_iload hx hb dX9_step_209 (lv_at hl 3 rfl) ?_
          refine lv_ishl hx hb dX9_step_211 ?_
          refine lv_iconst (v := (-1)) hx hb dX9_step_212 (by decide) ?_
          refine lv_ixor hx hb dX9_step_213 ?_
          refine lv_iand hx hb dX9_step_214 ?_
          refine rt_putL F hP hD hS (rt_c9 _ rt_k6) (rt_l9 rt_k6) inX9 tyX9 tyX9_ok nmX9 rfl 1 (by decide) kw_1005 rfl rfl rfl rfl (Nat.le_of_ble_eq_true rfl) (rt_c9 _ rt_k6) dX9_step_215 (fun M_215 H locs eM_215 hP hS => ?_)
          replace hw := hw M_215 eM_215
          refine lv_aload_n hx hb dX9_step_218 rfl (lv_at hl 0 rfl) ?_
          refine lv_aload_n hx hb dX9_step_219 rfl (lv_at hl 0 rfl) ?_
          refine rt_get F hP.1 (rt_c9 _ rt_k6) (rt_l9 rt_k6) inX9 rfl 10 (by decide) kw_1022 rfl rfl dX9_step_220 ?_
          refine rt_getN F hP.1 (rt_c12 _ rt_k0) (rt_l12 rt_k0) inX12 rfl 1 (by decide) kw_1141 rfl rfl dX9_step_223 ?_
          refine rt_get F hP.1 (rt_c8 _ rt_k1) (rt_l8 rt_k1) inX8 rfl 0 (by decide) kw_986 rfl rfl dX9_step_226 ?_
          refine lv_iload hx hb dX9_step_229 (lv_at hl 3 rfl) ?_
          refine rt_call4L hP (rt_runV (n := 1) (As := [.int x5]) (rest := [.ref (ad 6)]) F hP.1 hN hS (rt_frs hS.1) (rt_c13 _ rt_k2) (rt_l13 rt_k2) rfl (mtJx4a65c_get_915e3 l D cA ad hI _ x5 M_215 _ hw) kw_1186 kw_1322 kw_64 kw_1184 kw_1185 ⟨by decide, by decide, by decide +kernel⟩ ⟨rfl, rfl, (Nat.le_of_ble_eq_true rfl), (Nat.le_of_ble_eq_true rfl)⟩ rfl hl.1 rfl (Nat.le_of_ble_eq_true rfl) dX9_step_231 ⟨Nat.le_of_ble_eq_true rfl, Nat.le_of_ble_eq_true rfl⟩) hS (fun _ h => h) (fun M_231 H locs hw hP hS _ _ => ?_)
          refine rt_cast4 F hP.1 kw_1323 dX9_step_234 ?_
          refine rt_get F hP.1 (rt_c10 _ rt_k4) (rt_l10 rt_k4) inX10 rfl 4 (by decide) kw_1068 rfl rfl dX9_step_237 ?_
          refine rt_callvL hP (rt_runV (n := 1) (As := [.ref (ad 13)]) (rest := []) F hP.1 hN hS (rt_frs hS.1) (rt_c9 _ rt_k6) (rt_l9 rt_k6) rfl (mtX9_act l D cA ad hI _ M_231 _ hw) kw_1327 kw_1324 kw_65 kw_1326 kw_33 ⟨by decide, by decide, by decide +kernel⟩ ⟨rfl, rfl, Nat.le_of_ble_eq_true rfl, Nat.le_of_ble_eq_true rfl⟩ rfl hl.1 rfl (Nat.le_of_ble_eq_true rfl) dX9_step_240 ⟨Nat.le_of_ble_eq_true rfl, Nat.le_of_ble_eq_true rfl⟩) hS (fun _ h => h) (fun M_240 H locs hw hP hS _ _ => ?_)
          exact J243 q3 x4 x5 M_240 _ _ _ hw hP hS (lv_sub hl [0, 1, 2, 3] rfl)
        · replace hw := hw.2 hc197
          refine lv_goto (tgt := 243) hx hb dX9_step_200 (by decide) ?_
          exact J243 q3 x4 x5 M_194 _ _ _ hw hP hS (lv_sub hl [0, 1, 2, 3] rfl)
  have L52 : ∀ (n52 : Nat) (q3 : Nat) (x4 : Int32) (x5 : Int32) (M : pt_M) (H : Heap) (locs : List Loc) (ls : Array Slot), lpX9_step_52 p1 p2 Q n52 q3 x4 x5 M → rt_L D cA ad s.heap.size q3 M H → va_S (rt_fr ad s.heap.size) s.heap H locs → lv_has ls 7 [(0, .ref (ad 6)), (3, .ref q3), (4, .int x4), (5, .int x5)] → W p l e (headSpec (Cond.code yX9_step cX9_step 7 (some .int) :: lw_all) ({ frames := 7, cells := 2, slots := 33, locals := 157 } : Room)).room s m ([.ref (ad 6), .int p1, .int p2] : List Value).toArray below meth c H locs 2 33 (MQ below (va_Qi Q (rt_B D cA ad) (rt_fr ad s.heap.size)) ([.ref (ad 6), .int p1, .int p2] : List Value).toArray s 2 33 (rt_fr ad s.heap.size)) (F0 m 52 ls []) := by
    intro n52
    induction n52 with
    | zero => intro q3 x4 x5 M H locs ls hw; exact hw.elim
    | succ n52 ih52 =>
      have J162 : ∀ (q3 : Nat) (x4 : Int32) (x5 : Int32) (M : pt_M) (H : Heap) (locs : List Loc) (ls : Array Slot), wjX9_step_162 p1 p2 Q (lpX9_step_52 p1 p2 Q n52) q3 x4 x5 M → rt_L D cA ad s.heap.size q3 M H → va_S (rt_fr ad s.heap.size) s.heap H locs → lv_has ls 7 [(0, .ref (ad 6)), (3, .ref q3), (4, .int x4), (5, .int x5)] → W p l e (headSpec (Cond.code yX9_step cX9_step 7 (some .int) :: lw_all) ({ frames := 7, cells := 2, slots := 33, locals := 157 } : Room)).room s m ([.ref (ad 6), .int p1, .int p2] : List Value).toArray below meth c H locs 2 33 (MQ below (va_Qi Q (rt_B D cA ad) (rt_fr ad s.heap.size)) ([.ref (ad 6), .int p1, .int p2] : List Value).toArray s 2 33 (rt_fr ad s.heap.size)) (F0 m 162 ls []) := by
        intro q3 x4 x5 M H locs ls hw hP hS hl
        unfold wjX9_step_162 at hw
        obtain ⟨x5_162, ex5_162⟩ : ∃ y : Int32, y = x5 + 1 := ⟨_, rfl⟩
        replace hw := hw x5_162 ex5_162
        refine lv_iinc (v := x5_162) (lv' := [(5, .int x5_162), (0, .ref (ad 6)), (3, .ref q3), (4, .int x4)]) hx hb dX9_step_162 hl (k := 3) rfl (by rw [ex5_162]; rfl) (by decide) rfl (fun ls hl => ?_)
        refine lv_goto (tgt := 52) hx hb dX9_step_165 (by decide) ?_
        exact ih52 q3 x4 x5_162 M _ _ _ hw hP hS (lv_sub hl [1, 2, 3, 0] rfl)
      intro q3 x4 x5 M H locs ls hw hP hS hl
      replace hw : lbX9_step_52 p1 p2 Q (lpX9_step_52 p1 p2 Q n52) q3 x4 x5 M := hw
      unfold lbX9_step_52 at hw
      refine lv_iload hx hb dX9_step_52 (lv_at hl 3 rfl) ?_
      refine lv_aload_n hx hb dX9_step_54 rfl (lv_at hl 0 rfl) ?_
      refine rt_get F hP.1 (rt_c9 _ rt_k6) (rt_l9 rt_k6) inX9 rfl 10 (by decide) kw_1022 rfl rfl dX9_step_55 ?_
      refine rt_getN F hP.1 (rt_c12 _ rt_k0) (rt_l12 rt_k0) inX12 rfl 1 (by decide) kw_1141 rfl rfl dX9_step_58 ?_
      refine rt_get F hP.1 (rt_c8 _ rt_k1) (rt_l8 rt_k1) inX8 rfl 0 (by decide) kw_986 rfl rfl dX9_step_61 ?_
      refine rt_calliL hP (rt_runV (n := 0) (As := []) (rest := [.int x5]) F hP.1 hN hS (rt_frs hS.1) (rt_c13 _ rt_k2) (rt_l13 rt_k2) rfl (mtJx4a65c_size_8abf5 l D cA ad hI _ 2 rt_k2 M _ hw) kw_1167 kw_1320 kw_64 kw_1165 kw_1166 ⟨by decide, by decide, by decide +kernel⟩ ⟨rfl, rfl, Nat.le_of_ble_eq_true rfl, Nat.le_of_ble_eq_true rfl⟩ rfl hl.1 rfl (Nat.le_of_ble_eq_true rfl) dX9_step_64 ⟨Nat.le_of_ble_eq_true rfl, Nat.le_of_ble_eq_true rfl⟩) hS (fun _ h => h) (fun r_64 M_64 H locs hw hP hS _ _ => ?_)
      refine lv_icmp_ge (tgt := 168) hx hb dX9_step_67 (by decide) (fun hc67 => ?_) (fun hc67 => ?_)
      · replace hw := hw.1 hc67
        refine lv_aload_n hx hb dX9_step_168 rfl (lv_at hl 0 rfl) ?_
        refine rt_get F hP.1 (rt_c9 _ rt_k6) (rt_l9 rt_k6) inX9 rfl 10 (by decide) kw_1022 rfl rfl dX9_step_169 ?_
        refine rt_getN F hP.1 (rt_c12 _ rt_k0) (rt_l12 rt_k0) inX12 rfl 1 (by decide) kw_1141 rfl rfl dX9_step_172 ?_
        refine rt_get F hP.1 (rt_c8 _ rt_k1) (rt_l8 rt_k1) inX8 rfl 0 (by decide) kw_986 rfl rfl dX9_step_175 ?_
        refine rt_calliL hP (rt_runV (n := 0) (As := []) (rest := []) F hP.1 hN hS (rt_frs hS.1) (rt_c13 _ rt_k2) (rt_l13 rt_k2) rfl (mtJx4a65c_size_8abf5 l D cA ad hI _ 2 rt_k2 M_64 _ hw) kw_1167 kw_1320 kw_64 kw_1165 kw_1166 ⟨by decide, by decide, by decide +kernel⟩ ⟨rfl, rfl, Nat.le_of_ble_eq_true rfl, Nat.le_of_ble_eq_true rfl⟩ rfl hl.1 rfl (Nat.le_of_ble_eq_true rfl) dX9_step_178 ⟨Nat.le_of_ble_eq_true rfl, Nat.le_of_ble_eq_true rfl⟩) hS (fun _ h => h) (fun r_178 M_178 H locs hw hP hS _ _ => ?_)
        refine lv_iconst (v := 1) hx hb dX9_step_181 (by decide) ?_
        refine lv_isub hx hb dX9_step_182 ?_
        refine lv_topi (fun x5_183 ex5_183 => ?_)
        replace hw := hw x5_183 ex5_183
        refine lv_istore (lv' := [(5, .int x5_183), (0, .ref (ad 6)), (3, .ref q3), (4, .int x4)]) hx hb dX9_step_183 hl (by decide) rfl (fun ls hl => ?_)
        obtain ⟨n_, hw⟩ := hw
        exact L185 n_ q3 x4 x5_183 M_178 _ _ _ hw hP hS (lv_sub hl [1, 2, 3, 0] rfl)
      · replace hw := hw.2 hc67
        refine lv_aload_n hx hb dX9_step_70 rfl (lv_at hl 0 rfl) ?_
        refine rt_get F hP.1 (rt_c9 _ rt_k6) (rt_l9 rt_k6) inX9 rfl 10 (by decide) kw_1022 rfl rfl dX9_step_71 ?_
        refine rt_getN F hP.1 (rt_c12 _ rt_k0) (rt_l12 rt_k0) inX12 rfl 1 (by decide) kw_1141 rfl rfl dX9_step_74 ?_
        refine rt_get F hP.1 (rt_c8 _ rt_k1) (rt_l8 rt_k1) inX8 rfl 0 (by decide) kw_986 rfl rfl dX9_step_77 ?_
        refine lv_iload hx hb dX9_step_80 (lv_at hl 3 rfl) ?_
        refine rt_call4L hP (rt_runV (n := 1) (As := [.int x5]) (rest := []) F hP.1 hN hS (rt_frs hS.1) (rt_c13 _ rt_k2) (rt_l13 rt_k2) rfl (mtJx4a65c_get_915e3 l D cA ad hI _ x5 M_64 _ hw) kw_1186 kw_1322 kw_64 kw_1184 kw_1185 ⟨by decide, by decide, by decide +kernel⟩ ⟨rfl, rfl, (Nat.le_of_ble_eq_true rfl), (Nat.le_of_ble_eq_true rfl)⟩ rfl hl.1 rfl (Nat.le_of_ble_eq_true rfl) dX9_step_82 ⟨Nat.le_of_ble_eq_true rfl, Nat.le_of_ble_eq_true rfl⟩) hS (fun _ h => h) (fun M_82 H locs hw hP hS _ _ => ?_)
        refine rt_cast4 F hP.1 kw_1323 dX9_step_85 ?_
        refine lv_astore (lv' := [(6, .ref (ad 4)), (0, .ref (ad 6)), (3, .ref q3), (4, .int x4), (5, .int x5)]) hx hb dX9_step_88 hl (by decide) rfl (fun ls hl => ?_)
        refine lv_aload hx hb dX9_step_90 (lv_at hl 0 rfl) ?_
        refine rt_calliL hP (rt_runV (n := 0) (As := []) (rest := []) F hP.1 hN hS (rt_frs hS.1) (rt_c10 _ rt_k4) (rt_l10 rt_k4) rfl (mtX10_isMark l D cA ad hI _ M_82 _ hw) kw_1223 kw_1422 kw_66 kw_1221 kw_1222 ⟨by decide, by decide, by decide +kernel⟩ ⟨rfl, rfl, Nat.le_of_ble_eq_true rfl, Nat.le_of_ble_eq_true rfl⟩ rfl hl.1 rfl (Nat.le_of_ble_eq_true rfl) dX9_step_92 ⟨Nat.le_of_ble_eq_true rfl, Nat.le_of_ble_eq_true rfl⟩) hS (fun _ h => h) (fun r_92 M_92 H locs hw hP hS _ _ => ?_)
        refine lv_if_eq (tgt := 162) hx hb dX9_step_95 (by decide) (fun hc95 => ?_) (fun hc95 => ?_)
        · replace hw := hw.1 hc95
          exact J162 q3 x4 x5 M_92 _ _ _ hw hP hS (lv_sub hl [1, 2, 3, 4] rfl)
        · replace hw := hw.2 hc95
          refine lv_iload hx hb dX9_step_98 (lv_at hl 3 rfl) ?_
          refine lv_aload hx hb dX9_step_100 (lv_at hl 0 rfl) ?_
          refine rt_get F hP.1 (rt_c10 _ rt_k4) (rt_l10 rt_k4) inX10 rfl 0 (by decide) kw_1056 rfl rfl dX9_step_102 ?_
          refine rt_calliL hP (rt_runSN (n := 2) (As := [.int x4, .int (M_92 4 0)]) (rest := []) F hP.1 hN hS (rt_frs hS.1) (mtX12_has l D cA ad hI _ x4 (M_92 4 0) M_92 _ hw) kw_1226 kw_1321 kw_60 kw_1225 ⟨by decide, by decide, by decide +kernel⟩ ⟨rfl, rfl, Nat.le_of_ble_eq_true rfl, Nat.le_of_ble_eq_true rfl⟩ rfl hl.1 rfl (Nat.le_of_ble_eq_true rfl) dX9_step_105 ⟨Nat.le_of_ble_eq_true rfl, Nat.le_of_ble_eq_true rfl⟩) hS (fun _ h => h) (fun r_105 M_105 H locs hw hP hS _ _ => ?_)
          refine lv_if_ne (tgt := 114) hx hb dX9_step_108 (by decide) (fun hc108 => ?_) (fun hc108 => ?_)
          · replace hw := hw.1 hc108
            refine lv_aload_n hx hb dX9_step_114 rfl (lv_at hl 1 rfl) ?_
            refine rt_get F hP.1 (rt_c9 _ rt_k6) (rt_l9 rt_k6) inX9 rfl 3 (by decide) kw_1009 rfl rfl dX9_step_115 ?_
            refine lv_iload hx hb dX9_step_118 (lv_at hl 4 rfl) ?_
            refine lv_aload hx hb dX9_step_120 (lv_at hl 0 rfl) ?_
            refine rt_get F hP.1 (rt_c10 _ rt_k4) (rt_l10 rt_k4) inX10 rfl 1 (by decide) kw_1059 rfl rfl dX9_step_122 ?_
            refine lv_iconst (v := 3) hx hb dX9_step_125 (by decide) ?_
            refine lv_icmp_ne (tgt := 152) hx hb dX9_step_126 (by decide) (fun hc126 => ?_) (fun hc126 => ?_)
            · replace hw := hw.1 hc126
              refine lv_aload_n hx hb dX9_step_152 rfl (lv_at hl 1 rfl) ?_
              refine lv_aload hx hb dX9_step_153 (lv_at hl 0 rfl) ?_
              refine rt_get F hP.1 (rt_c10 _ rt_k4) (rt_l10 rt_k4) inX10 rfl 0 (by decide) kw_1056 rfl rfl dX9_step_155 ?_
              exact hw.elim
            · replace hw := hw.2 hc126
              refine lv_aload_n hx hb dX9_step_129 rfl (lv_at hl 1 rfl) ?_
              refine rt_get F hP.1 (rt_c9 _ rt_k6) (rt_l9 rt_k6) inX9 rfl 1 (by decide) kw_1005 rfl rfl dX9_step_130 ?_
              refine lv_aload_n hx hb dX9_step_133 rfl (lv_at hl 1 rfl) ?_
              refine rt_get F hP.1 (rt_c9 _ rt_k6) (rt_l9 rt_k6) inX9 rfl 10 (by decide) kw_1022 rfl rfl dX9_step_134 ?_
              refine rt_getN F hP.1 (rt_c12 _ rt_k0) (rt_l12 rt_k0) inX12 rfl 1 (by decide) kw_1141 rfl rfl dX9_step_137 ?_
              refine lv_aload hx hb dX9_step_140 (lv_at hl 0 rfl) ?_
              refine rt_get F hP.1 (rt_c10 _ rt_k4) (rt_l10 rt_k4) inX10 rfl 0 (by decide) kw_1056 rfl rfl dX9_step_142 ?_
              refine rt_calliL hP (rt_runV (n := 1) (As := [.int (M_105 4 0)]) (rest := [.int (M_105 6 1), .int x5, .ref (ad 8)]) F hP.1 hN hS (rt_frs hS.1) (rt_c8 _ rt_k1) (rt_l8 rt_k1) rfl (mtX8_parts l D cA ad hI _ (M_105 4 0) M_105 _ hw) kw_1214 kw_1390 kw_61 kw_1212 kw_1213 ⟨by decide, by decide, by decide +kernel⟩ ⟨rfl, rfl, Nat.le_of_ble_eq_true rfl, Nat.le_of_ble_eq_true rfl⟩ rfl hl.1 rfl (Nat.le_of_ble_eq_true rfl) dX9_step_145 ⟨Nat.le_of_ble_eq_true rfl, Nat.le_of_ble_eq_true rfl⟩) hS (fun _ h => h) (fun r_145 M_145 H locs hw hP hS _ _ => ?_)
              refine lv_iand hx hb dX9_step_148 ?_
              refine lv_goto (tgt := 161) hx hb dX9_step_149 (by decide) ?_
              have hv161 := hw.1
              replace hw := hw.2
              refine rt_iastL F hP hD hS rt_a8 hv161 dX9_step_161 (fun M_161 H locs eM_161 hP hS => ?_)
              replace hw := hw M_161 eM_161
              exact J162 q3 x4 x5 M_161 _ _ _ hw hP hS (lv_sub hl [1, 2, 3, 4] rfl)
          · replace hw := hw.2 hc108
            refine lv_goto (tgt := 162) hx hb dX9_step_111 (by decide) ?_
            exact J162 q3 x4 x5 M_105 _ _ _ hw hP hS (lv_sub hl [1, 2, 3, 4] rfl)
  unfold wpX9_step at hw
  refine lv_aload_n hx hb dX9_step_0 rfl (lv_at hl 0 rfl) ?_
  refine lv_iload_n hx hb dX9_step_1 rfl (lv_at hl 1 rfl) ?_
  refine lv_iload_n hx hb dX9_step_2 rfl (lv_at hl 2 rfl) ?_
  refine rt_callT (rt_runVm (n := 2) (As := [.int p1, .int p2]) (rest := []) F hP hN hS (rt_frs hS.1) (rt_c9 _ rt_k6) (rt_l9 rt_k6) rfl (mtX9_taken l D cA ad hI _ p1 p2 M _ hw) kw_1368 kw_1365 kw_65 kw_1367 kw_36 ⟨by decide, by decide, by decide +kernel⟩ ⟨rfl, rfl, (Nat.le_of_ble_eq_true rfl), (Nat.le_of_ble_eq_true rfl)⟩ rfl hl.1 rfl (Nat.le_of_ble_eq_true rfl) dX9_step_3 ⟨(Nat.le_of_ble_eq_true rfl), (Nat.le_of_ble_eq_true rfl)⟩) hS (fun _ h => h) (fun q_3 M_3 H locs hw hP hS => ?_)
  replace hw := hw q_3
  refine W.widen (k := 2) (n := 33) (Nat.le_of_ble_eq_true rfl) (Nat.le_of_ble_eq_true rfl) ?_
  refine lv_astore_n (lv' := [(3, .ref q_3), (0, .ref (ad 6)), (1, .int p1), (2, .int p2)]) hx hb dX9_step_6 rfl hl (by decide) rfl (fun ls hl => ?_)
  refine lv_iconst (v := 0) hx hb dX9_step_7 (by decide) ?_
  refine lv_istore (lv' := [(4, .int 0), (3, .ref q_3), (0, .ref (ad 6)), (1, .int p1), (2, .int p2)]) hx hb dX9_step_8 hl (by decide) rfl (fun ls hl => ?_)
  refine lv_iconst (v := 0) hx hb dX9_step_10 (by decide) ?_
  refine lv_istore (lv' := [(5, .int 0), (4, .int 0), (3, .ref q_3), (0, .ref (ad 6)), (1, .int p1), (2, .int p2)]) hx hb dX9_step_11 hl (by decide) rfl (fun ls hl => ?_)
  refine lv_iload hx hb dX9_step_13 (lv_at hl 0 rfl) ?_
  refine lv_aload_n hx hb dX9_step_15 rfl (lv_at hl 2 rfl) ?_
  refine rt_callpL (sx_runV (n := 0) (As := []) (rest := [.int 0]) F hP.2.1 0 rfl rfl (mtSZ0 l D cA q_3 0 (ad 14) 0) rt_szblind (fun U hU hW => ⟨by rw [hU]; exact hP.2.1, va_K.moved hW.alike F.2⟩) kw_1167 kw_1320 kw_64 kw_1165 kw_1166 ⟨by decide, by decide, by decide +kernel⟩ ⟨rfl, rfl, (Nat.le_of_ble_eq_true rfl), (Nat.le_of_ble_eq_true rfl)⟩ rfl hl.1 rfl (Nat.le_of_ble_eq_true rfl) dX9_step_16 ⟨(Nat.le_of_ble_eq_true rfl), (Nat.le_of_ble_eq_true rfl)⟩) hP hS (fun r_16 H locs e_16 hP hS => ?_)
  obtain rfl := e_16
  refine lv_icmp_ge (tgt := 49) hx hb dX9_step_19 (by decide) (fun hc19 => ?_) (fun hc19 => ?_)
  · replace hw := hw.1 hc19
    refine lv_iconst (v := 0) hx hb dX9_step_49 (by decide) ?_
    refine lv_istore (lv' := [(5, .int 0), (4, .int 0), (3, .ref q_3), (0, .ref (ad 6)), (1, .int p1), (2, .int p2)]) hx hb dX9_step_50 hl (by decide) rfl (fun ls hl => ?_)
    obtain ⟨n_, hw⟩ := hw
    exact L52 n_ q_3 0 0 M_3 _ _ _ hw hP hS (lv_sub hl [3, 2, 1, 0] rfl)
  · replace hw := hw.2 hc19
    refine lv_iload hx hb dX9_step_22 (lv_at hl 1 rfl) ?_
    refine lv_aload_n hx hb dX9_step_24 rfl (lv_at hl 3 rfl) ?_
    refine lv_aload_n hx hb dX9_step_25 rfl (lv_at hl 2 rfl) ?_
    refine lv_iload hx hb dX9_step_26 (lv_at hl 0 rfl) ?_
    exact hw.elim
-- ===== X9_settle
def wjX9_settle_84 (p1 : Int32) (Q : Int32 → pt_M → Prop)   (M : pt_M) : Prop :=
  False
def wpX9_settle (p1 : Int32) (M : pt_M) (Q : Int32 → pt_M → Prop) : Prop :=
  wpX9_isOver M (fun (r_5 : Int32) (M_5 : pt_M) => (¬ r_5 = 0 → wjX9_settle_84 p1 Q M_5) ∧ (r_5 = 0 → (12 ≤ p1 → wjX9_settle_84 p1 Q M_5) ∧ (¬ 12 ≤ p1 → wpX9_step 2 (-1) M_5 (fun (r_20 : Int32) (M_20 : pt_M) => (¬ r_20 = 0 → False) ∧ (r_20 = 0 → wpJx4a65c_isEmpty_aae02 11 M_20 (fun (r_34 : Int32) (M_34 : pt_M) => (r_34 = 0 → False) ∧ (¬ r_34 = 0 → Q 0 M_34)))))))
set_option maxHeartbeats 4000000 in
set_option maxRecDepth 100000 in
theorem mtX9_settle (l : Launch) (D : va_G) (cA : Nat → ClassId) (ad : Nat → Nat) (hI : rt_I ad) (sz : Nat) (p1 : Int32) (M : pt_M) (Q : Int32 → pt_M → Prop) (hw : wpX9_settle p1 M Q) : Met l yX9_settle (Cond.code yX9_settle cX9_settle 5 (some .int) :: lw_all) ({ frames := 8, cells := 2, slots := 33, locals := 183 } : Room) (va_Pc [.ref (ad 6), .int p1] (rt_P D cA ad sz M)) (va_Qi Q (rt_B D cA ad) (rt_fr ad sz)) 2 33 (rt_fr ad sz) := by
  refine Met.ofW (cc := cX9_settle) (maxL := 5) (ret := (some .int)) (by decide) rfl ?_
  intro p e s m args below meth c s₁ B hml hv
  obtain ⟨rfl, hsz, hP, hK, hN⟩ := hv
  have hx := B.exec
  have hb := B.bytes
  have hr := B.returns
  have hts0 := atoms_spec (ws := (Cond.code yX9_settle cX9_settle 5 (some .int) :: lw_all)) B.pre
  have hown : s.vm.findClass RX9 = some m.cls := findClass_of_methodNamed B.named
  have hlocks := B.notSynchronized
  subst hsz
  have F : pt_F p m c cX9_settle 5 s _ RX9 D cA := ⟨⟨hx, hb, hml, hown, fun w h => hts0 w (List.mem_cons_of_mem _ h)⟩, hK⟩
  have hD : ∀ M, va_D (rt_fr ad s.heap.size) (rt_W cA ad M) := rt_D hI (fun k h => Or.inl ⟨k, h, rfl⟩)
  have hS : va_S (rt_fr ad s.heap.size) s.heap s.heap [] := va_S.rf
  have hl := lv_entry ([.ref (ad 6), .int p1]) (n := 5) (Nat.le_of_ble_eq_true rfl)
  rw [lg_entry_eq]
  generalize (lg_sl ([.ref (ad 6), .int p1]) ++ List.replicate (5 - (lg_sl ([.ref (ad 6), .int p1])).length) Slot.unset).toArray = ls at hl ⊢
  have hl : lv_has ls 5 [(0, .ref (ad 6)), (1, .int p1)] := hl
  have J84 : ∀ (M : pt_M) (H : Heap) (locs : List Loc) (ls : Array Slot), wjX9_settle_84 p1 Q M → va_P D pt_cl (rt_W cA ad M) H → va_S (rt_fr ad s.heap.size) s.heap H locs → lv_has ls 5 [] → W p l e (headSpec (Cond.code yX9_settle cX9_settle 5 (some .int) :: lw_all) ({ frames := 8, cells := 2, slots := 33, locals := 183 } : Room)).room s m ([.ref (ad 6), .int p1] : List Value).toArray below meth c H locs 0 0 (MQ below (va_Qi Q (rt_B D cA ad) (rt_fr ad s.heap.size)) ([.ref (ad 6), .int p1] : List Value).toArray s 2 33 (rt_fr ad s.heap.size)) (F0 m 84 ls []) := by
    intro M H locs ls hw hP hS hl
    unfold wjX9_settle_84 at hw
    exact hw.elim
  unfold wpX9_settle at hw
  refine lv_iconst (v := 0) hx hb dX9_settle_0 (by decide) ?_
  refine lv_istore_n (lv' := [(2, .int 0), (0, .ref (ad 6)), (1, .int p1)]) hx hb dX9_settle_1 rfl hl (by decide) rfl (fun ls hl => ?_)
  refine lv_iload_n hx hb dX9_settle_2 rfl (lv_at hl 2 rfl) ?_
  refine lv_istore_n (lv' := [(3, .int p1), (2, .int 0), (0, .ref (ad 6)), (1, .int p1)]) hx hb dX9_settle_3 rfl hl (by decide) rfl (fun ls hl => ?_)
  refine lv_aload_n hx hb dX9_settle_4 rfl (lv_at hl 2 rfl) ?_
  refine rt_calli (rt_runV (n := 0) (As := []) (rest := []) F hP hN hS (rt_frs hS.1) (rt_c9 _ rt_k6) (rt_l9 rt_k6) rfl (mtX9_isOver l D cA ad hI _ M _ hw) kw_1358 kw_1355 kw_65 kw_1356 kw_1357 ⟨by decide, by decide, by decide +kernel⟩ ⟨rfl, rfl, Nat.le_of_ble_eq_true rfl, Nat.le_of_ble_eq_true rfl⟩ rfl hl.1 rfl (Nat.le_of_ble_eq_true rfl) dX9_settle_5 ⟨Nat.le_of_ble_eq_true rfl, Nat.le_of_ble_eq_true rfl⟩) hS (fun _ h => h) (fun r_5 M_5 H locs hw hP hS _ _ => ?_)
  refine lv_if_ne (tgt := 84) hx hb dX9_settle_8 (by decide) (fun hc8 => ?_) (fun hc8 => ?_)
  · replace hw := hw.1 hc8
    exact J84 M_5 _ _ _ hw hP hS (lv_sub hl [] rfl)
  · replace hw := hw.2 hc8
    refine lv_iload_n hx hb dX9_settle_11 rfl (lv_at hl 0 rfl) ?_
    refine lv_bipush (v := 12) hx hb dX9_settle_12 (by decide) ?_
    refine lv_icmp_ge (tgt := 84) hx hb dX9_settle_14 (by decide) (fun hc14 => ?_) (fun hc14 => ?_)
    · replace hw := hw.1 hc14
      exact J84 M_5 _ _ _ hw hP hS (lv_sub hl [] rfl)
    · replace hw := hw.2 hc14
      refine lv_aload_n hx hb dX9_settle_17 rfl (lv_at hl 2 rfl) ?_
      refine lv_iconst (v := 2) hx hb dX9_settle_18 (by decide) ?_
      refine lv_iconst (v := (-1)) hx hb dX9_settle_19 (by decide) ?_
      refine rt_callim (rt_runVm (n := 2) (As := [.int 2, .int (-1)]) (rest := []) F hP hN hS (rt_frs hS.1) (rt_c9 _ rt_k6) (rt_l9 rt_k6) rfl (mtX9_step l D cA ad hI _ 2 (-1) M_5 _ hw) kw_1364 kw_1361 kw_65 kw_1363 kw_35 ⟨by decide, by decide, by decide +kernel⟩ ⟨rfl, rfl, (Nat.le_of_ble_eq_true rfl), (Nat.le_of_ble_eq_true rfl)⟩ rfl hl.1 rfl (Nat.le_of_ble_eq_true rfl) dX9_settle_20 ⟨(Nat.le_of_ble_eq_true rfl), (Nat.le_of_ble_eq_true rfl)⟩) hS (fun _ h => h) (fun r_20 M_20 H locs hw hP hS _ _ => ?_)
      refine W.widen (k := 2) (n := 33) (Nat.le_of_ble_eq_true rfl) (Nat.le_of_ble_eq_true rfl) ?_
      refine lv_istore (lv' := [(4, .int r_20), (3, .int p1), (2, .int 0), (0, .ref (ad 6)), (1, .int p1)]) hx hb dX9_settle_23 hl (by decide) rfl (fun ls hl => ?_)
      refine lv_iload hx hb dX9_settle_25 (lv_at hl 0 rfl) ?_
      refine lv_if_ne (tgt := 63) hx hb dX9_settle_27 (by decide) (fun hc27 => ?_) (fun hc27 => ?_)
      · replace hw := hw.1 hc27
        exact hw.elim
      · replace hw := hw.2 hc27
        refine lv_aload_n hx hb dX9_settle_30 rfl (lv_at hl 3 rfl) ?_
        refine rt_get F hP (rt_c9 _ rt_k6) (rt_l9 rt_k6) inX9 rfl 6 (by decide) kw_1015 rfl rfl dX9_settle_31 ?_
        refine rt_calli (rt_runV (n := 0) (As := []) (rest := []) F hP hN hS (rt_frs hS.1) (rt_c13 _ rt_k11) (rt_l13 rt_k11) rfl (mtJx4a65c_isEmpty_aae02 l D cA ad hI _ 11 rt_k11 M_20 _ hw) kw_1439 kw_1436 kw_64 kw_1437 kw_1438 ⟨by decide, by decide, by decide +kernel⟩ ⟨rfl, rfl, Nat.le_of_ble_eq_true rfl, Nat.le_of_ble_eq_true rfl⟩ rfl hl.1 rfl (Nat.le_of_ble_eq_true rfl) dX9_settle_34 ⟨Nat.le_of_ble_eq_true rfl, Nat.le_of_ble_eq_true rfl⟩) hS (fun _ h => h) (fun r_34 M_34 H locs hw hP hS _ _ => ?_)
        refine lv_if_eq (tgt := 42) hx hb dX9_settle_37 (by decide) (fun hc37 => ?_) (fun hc37 => ?_)
        · replace hw := hw.1 hc37
          exact hw.elim
        · replace hw := hw.2 hc37
          refine lv_iload_n hx hb dX9_settle_40 rfl (lv_at hl 2 rfl) ?_
          exact W.iret (v := 0) hx hb hr (fun t ht hW => ⟨⟨0, M_34, rfl, hw, by unfold rt_B; rw [ht]; exact hP⟩, hS.F ht⟩) hS.2.2 dX9_settle_41
-- ===== X9_start
def lbX9_start_70  (Q : Int32 → pt_M → Prop)  (R70 : Int32 → pt_M → Prop) (x1 : Int32) (M : pt_M) : Prop :=
  (30 ≤ x1 → wpX8_filled 0 M (fun (r_98 : Int32) (M_98 : pt_M) => wpX9_enter r_98 M_98 (fun (M_101 : pt_M) => wpX9_settle 0 M_101 (fun (r_106 : Int32) (M_106 : pt_M) => Q r_106 M_106)))) ∧ (¬ 30 ≤ x1 → vp_in x1 30 ∧ ∀ M_82 : pt_M, M_82 = pt_st M 10 (Int32.toNatClampNeg x1) 0 → ∀ x1_83 : Int32, x1_83 = x1 + 1 → R70 x1_83 M_82)
def lpX9_start_70  (Q : Int32 → pt_M → Prop)  : Nat → Int32 → pt_M → Prop
  | 0 => fun _ _ => False
  | n + 1 => fun x1 M => lbX9_start_70 Q (lpX9_start_70 Q n) x1 M
def lbX9_start_49  (Q : Int32 → pt_M → Prop)  (R49 : Int32 → pt_M → Prop) (x1 : Int32) (M : pt_M) : Prop :=
  (20 ≤ x1 → ∃ n : Nat, lpX9_start_70 Q n 0 M) ∧ (¬ 20 ≤ x1 → vp_in x1 20 ∧ ∀ M_61 : pt_M, M_61 = pt_st M 8 (Int32.toNatClampNeg x1) 0 → ∀ x1_62 : Int32, x1_62 = x1 + 1 → R49 x1_62 M_61)
def lpX9_start_49  (Q : Int32 → pt_M → Prop)  : Nat → Int32 → pt_M → Prop
  | 0 => fun _ _ => False
  | n + 1 => fun x1 M => lbX9_start_49 Q (lpX9_start_49 Q n) x1 M
def lbX9_start_29  (Q : Int32 → pt_M → Prop)  (R29 : Int32 → pt_M → Prop) (x1 : Int32) (M : pt_M) : Prop :=
  (4 ≤ x1 → ∃ n : Nat, lpX9_start_49 Q n 0 M) ∧ (¬ 4 ≤ x1 → vp_in x1 4 ∧ ∀ M_40 : pt_M, M_40 = pt_st M 9 (Int32.toNatClampNeg x1) 0 → ∀ x1_41 : Int32, x1_41 = x1 + 1 → R29 x1_41 M_40)
def lpX9_start_29  (Q : Int32 → pt_M → Prop)  : Nat → Int32 → pt_M → Prop
  | 0 => fun _ _ => False
  | n + 1 => fun x1 M => lbX9_start_29 Q (lpX9_start_29 Q n) x1 M
def wpX9_start  (M : pt_M) (Q : Int32 → pt_M → Prop) : Prop :=
  ∀ M_2 : pt_M, M_2 = pt_st M 6 0 1 → ∀ M_7 : pt_M, M_7 = pt_st M_2 6 7 0 → ∀ M_12 : pt_M, M_12 = pt_st M_7 6 8 0 → ∀ M_17 : pt_M, M_17 = pt_st M_12 6 9 0 → wpJx4a65c_clear_da8c8 11 M_17 (fun (M_24 : pt_M) => ∃ n : Nat, lpX9_start_29 Q n 0 M_24)
set_option maxHeartbeats 4000000 in
set_option maxRecDepth 100000 in
theorem mtX9_start (l : Launch) (D : va_G) (cA : Nat → ClassId) (ad : Nat → Nat) (hI : rt_I ad) (sz : Nat) (M : pt_M) (Q : Int32 → pt_M → Prop) (hw : wpX9_start M Q) : Met l yX9_start (Cond.code yX9_start cX9_start 2 (some .int) :: lw_all) ({ frames := 9, cells := 2, slots := 33, locals := 207 } : Room) (va_Pc [.ref (ad 6)] (rt_P D cA ad sz M)) (va_Qi Q (rt_B D cA ad) (rt_fr ad sz)) 2 33 (rt_fr ad sz) := by
  refine Met.ofW (cc := cX9_start) (maxL := 2) (ret := (some .int)) (by decide) rfl ?_
  intro p e s m args below meth c s₁ B hml hv
  obtain ⟨rfl, hsz, hP, hK, hN⟩ := hv
  have hx := B.exec
  have hb := B.bytes
  have hr := B.returns
  have hts0 := atoms_spec (ws := (Cond.code yX9_start cX9_start 2 (some .int) :: lw_all)) B.pre
  have hown : s.vm.findClass RX9 = some m.cls := findClass_of_methodNamed B.named
  have hlocks := B.notSynchronized
  subst hsz
  have F : pt_F p m c cX9_start 2 s _ RX9 D cA := ⟨⟨hx, hb, hml, hown, fun w h => hts0 w (List.mem_cons_of_mem _ h)⟩, hK⟩
  have hD : ∀ M, va_D (rt_fr ad s.heap.size) (rt_W cA ad M) := rt_D hI (fun k h => Or.inl ⟨k, h, rfl⟩)
  have hS : va_S (rt_fr ad s.heap.size) s.heap s.heap [] := va_S.rf
  have hl := lv_entry ([.ref (ad 6)]) (n := 2) (Nat.le_of_ble_eq_true rfl)
  rw [lg_entry_eq]
  generalize (lg_sl ([.ref (ad 6)]) ++ List.replicate (2 - (lg_sl ([.ref (ad 6)])).length) Slot.unset).toArray = ls at hl ⊢
  have hl : lv_has ls 2 [(0, .ref (ad 6))] := hl
  have L70 : ∀ (n70 : Nat) (x1 : Int32) (M : pt_M) (H : Heap) (locs : List Loc) (ls : Array Slot), lpX9_start_70 Q n70 x1 M → va_P D pt_cl (rt_W cA ad M) H → va_S (rt_fr ad s.heap.size) s.heap H locs → lv_has ls 2 [(0, .ref (ad 6)), (1, .int x1)] → W p l e (headSpec (Cond.code yX9_start cX9_start 2 (some .int) :: lw_all) ({ frames := 9, cells := 2, slots := 33, locals := 207 } : Room)).room s m ([.ref (ad 6)] : List Value).toArray below meth c H locs 0 0 (MQ below (va_Qi Q (rt_B D cA ad) (rt_fr ad s.heap.size)) ([.ref (ad 6)] : List Value).toArray s 2 33 (rt_fr ad s.heap.size)) (F0 m 70 ls []) := by
    intro n70
    induction n70 with
    | zero => intro x1 M H locs ls hw; exact hw.elim
    | succ n70 ih70 =>
      intro x1 M H locs ls hw hP hS hl
      replace hw : lbX9_start_70 Q (lpX9_start_70 Q n70) x1 M := hw
      unfold lbX9_start_70 at hw
      refine lv_iload_n hx hb dX9_start_70 rfl (lv_at hl 1 rfl) ?_
      refine lv_bipush (v := 30) hx hb dX9_start_71 (by decide) ?_
      refine lv_icmp_ge (tgt := 89) hx hb dX9_start_73 (by decide) (fun hc73 => ?_) (fun hc73 => ?_)
      · replace hw := hw.1 hc73
        refine lv_aload_n hx hb dX9_start_89 rfl (lv_at hl 0 rfl) ?_
        refine lv_aload_n hx hb dX9_start_90 rfl (lv_at hl 0 rfl) ?_
        refine rt_get F hP (rt_c9 _ rt_k6) (rt_l9 rt_k6) inX9 rfl 10 (by decide) kw_1022 rfl rfl dX9_start_91 ?_
        refine rt_getN F hP (rt_c12 _ rt_k0) (rt_l12 rt_k0) inX12 rfl 1 (by decide) kw_1141 rfl rfl dX9_start_94 ?_
        refine lv_iconst (v := 0) hx hb dX9_start_97 (by decide) ?_
        refine rt_calli (rt_runV (n := 1) (As := [.int 0]) (rest := [.ref (ad 6)]) F hP hN hS (rt_frs hS.1) (rt_c8 _ rt_k1) (rt_l8 rt_k1) rfl (mtX8_filled l D cA ad hI _ 0 M _ hw) kw_1312 kw_1309 kw_61 kw_1310 kw_1311 ⟨by decide, by decide, by decide +kernel⟩ ⟨rfl, rfl, Nat.le_of_ble_eq_true rfl, Nat.le_of_ble_eq_true rfl⟩ rfl hl.1 rfl (Nat.le_of_ble_eq_true rfl) dX9_start_98 ⟨Nat.le_of_ble_eq_true rfl, Nat.le_of_ble_eq_true rfl⟩) hS (fun _ h => h) (fun r_98 M_98 H locs hw hP hS _ _ => ?_)
        refine rt_callv (rt_runV (n := 1) (As := [.int r_98]) (rest := []) F hP hN hS (rt_frs hS.1) (rt_c9 _ rt_k6) (rt_l9 rt_k6) rfl (mtX9_enter l D cA ad hI _ r_98 M_98 _ hw) kw_1319 kw_1316 kw_65 kw_1318 kw_32 ⟨by decide, by decide, by decide +kernel⟩ ⟨rfl, rfl, Nat.le_of_ble_eq_true rfl, Nat.le_of_ble_eq_true rfl⟩ rfl hl.1 rfl (Nat.le_of_ble_eq_true rfl) dX9_start_101 ⟨Nat.le_of_ble_eq_true rfl, Nat.le_of_ble_eq_true rfl⟩) hS (fun _ h => h) (fun M_101 H locs hw hP hS _ _ => ?_)
        refine lv_aload_n hx hb dX9_start_104 rfl (lv_at hl 0 rfl) ?_
        refine lv_iconst (v := 0) hx hb dX9_start_105 (by decide) ?_
        refine rt_callim (rt_runVm (n := 1) (As := [.int 0]) (rest := []) F hP hN hS (rt_frs hS.1) (rt_c9 _ rt_k6) (rt_l9 rt_k6) rfl (mtX9_settle l D cA ad hI _ 0 M_101 _ hw) kw_1354 kw_1351 kw_65 kw_1353 kw_34 ⟨by decide, by decide, by decide +kernel⟩ ⟨rfl, rfl, (Nat.le_of_ble_eq_true rfl), (Nat.le_of_ble_eq_true rfl)⟩ rfl hl.1 rfl (Nat.le_of_ble_eq_true rfl) dX9_start_106 ⟨(Nat.le_of_ble_eq_true rfl), (Nat.le_of_ble_eq_true rfl)⟩) hS (fun _ h => h) (fun r_106 M_106 H locs hw hP hS _ _ => ?_)
        refine W.widen (k := 2) (n := 33) (Nat.le_of_ble_eq_true rfl) (Nat.le_of_ble_eq_true rfl) ?_
        exact W.iret (v := r_106) hx hb hr (fun t ht hW => ⟨⟨r_106, M_106, rfl, hw, by unfold rt_B; rw [ht]; exact hP⟩, hS.F ht⟩) hS.2.2 dX9_start_109
      · replace hw := hw.2 hc73
        refine lv_aload_n hx hb dX9_start_76 rfl (lv_at hl 0 rfl) ?_
        refine rt_get F hP (rt_c9 _ rt_k6) (rt_l9 rt_k6) inX9 rfl 5 (by decide) kw_1013 rfl rfl dX9_start_77 ?_
        refine lv_iload_n hx hb dX9_start_80 rfl (lv_at hl 1 rfl) ?_
        refine lv_iconst (v := 0) hx hb dX9_start_81 (by decide) ?_
        have hv82 := hw.1
        replace hw := hw.2
        refine rt_iast F hP hD hS rt_a10 hv82 dX9_start_82 (fun M_82 H locs eM_82 hP hS => ?_)
        replace hw := hw M_82 eM_82
        obtain ⟨x1_83, ex1_83⟩ : ∃ y : Int32, y = x1 + 1 := ⟨_, rfl⟩
        replace hw := hw x1_83 ex1_83
        refine lv_iinc (v := x1_83) (lv' := [(1, .int x1_83), (0, .ref (ad 6))]) hx hb dX9_start_83 hl (k := 1) rfl (by rw [ex1_83]; rfl) (by decide) rfl (fun ls hl => ?_)
        refine lv_goto (tgt := 70) hx hb dX9_start_86 (by decide) ?_
        exact ih70 x1_83 M_82 _ _ _ hw hP hS (lv_sub hl [1, 0] rfl)
  have L49 : ∀ (n49 : Nat) (x1 : Int32) (M : pt_M) (H : Heap) (locs : List Loc) (ls : Array Slot), lpX9_start_49 Q n49 x1 M → va_P D pt_cl (rt_W cA ad M) H → va_S (rt_fr ad s.heap.size) s.heap H locs → lv_has ls 2 [(0, .ref (ad 6)), (1, .int x1)] → W p l e (headSpec (Cond.code yX9_start cX9_start 2 (some .int) :: lw_all) ({ frames := 9, cells := 2, slots := 33, locals := 207 } : Room)).room s m ([.ref (ad 6)] : List Value).toArray below meth c H locs 0 0 (MQ below (va_Qi Q (rt_B D cA ad) (rt_fr ad s.heap.size)) ([.ref (ad 6)] : List Value).toArray s 2 33 (rt_fr ad s.heap.size)) (F0 m 49 ls []) := by
    intro n49
    induction n49 with
    | zero => intro x1 M H locs ls hw; exact hw.elim
    | succ n49 ih49 =>
      intro x1 M H locs ls hw hP hS hl
      replace hw : lbX9_start_49 Q (lpX9_start_49 Q n49) x1 M := hw
      unfold lbX9_start_49 at hw
      refine lv_iload_n hx hb dX9_start_49 rfl (lv_at hl 1 rfl) ?_
      refine lv_bipush (v := 20) hx hb dX9_start_50 (by decide) ?_
      refine lv_icmp_ge (tgt := 68) hx hb dX9_start_52 (by decide) (fun hc52 => ?_) (fun hc52 => ?_)
      · replace hw := hw.1 hc52
        refine lv_iconst (v := 0) hx hb dX9_start_68 (by decide) ?_
        refine lv_istore_n (lv' := [(1, .int 0), (0, .ref (ad 6))]) hx hb dX9_start_69 rfl hl (by decide) rfl (fun ls hl => ?_)
        obtain ⟨n_, hw⟩ := hw
        exact L70 n_ 0 M _ _ _ hw hP hS (lv_sub hl [1, 0] rfl)
      · replace hw := hw.2 hc52
        refine lv_aload_n hx hb dX9_start_55 rfl (lv_at hl 0 rfl) ?_
        refine rt_get F hP (rt_c9 _ rt_k6) (rt_l9 rt_k6) inX9 rfl 3 (by decide) kw_1009 rfl rfl dX9_start_56 ?_
        refine lv_iload_n hx hb dX9_start_59 rfl (lv_at hl 1 rfl) ?_
        refine lv_iconst (v := 0) hx hb dX9_start_60 (by decide) ?_
        have hv61 := hw.1
        replace hw := hw.2
        refine rt_iast F hP hD hS rt_a8 hv61 dX9_start_61 (fun M_61 H locs eM_61 hP hS => ?_)
        replace hw := hw M_61 eM_61
        obtain ⟨x1_62, ex1_62⟩ : ∃ y : Int32, y = x1 + 1 := ⟨_, rfl⟩
        replace hw := hw x1_62 ex1_62
        refine lv_iinc (v := x1_62) (lv' := [(1, .int x1_62), (0, .ref (ad 6))]) hx hb dX9_start_62 hl (k := 1) rfl (by rw [ex1_62]; rfl) (by decide) rfl (fun ls hl => ?_)
        refine lv_goto (tgt := 49) hx hb dX9_start_65 (by decide) ?_
        exact ih49 x1_62 M_61 _ _ _ hw hP hS (lv_sub hl [1, 0] rfl)
  have L29 : ∀ (n29 : Nat) (x1 : Int32) (M : pt_M) (H : Heap) (locs : List Loc) (ls : Array Slot), lpX9_start_29 Q n29 x1 M → va_P D pt_cl (rt_W cA ad M) H → va_S (rt_fr ad s.heap.size) s.heap H locs → lv_has ls 2 [(0, .ref (ad 6)), (1, .int x1)] → W p l e (headSpec (Cond.code yX9_start cX9_start 2 (some .int) :: lw_all) ({ frames := 9, cells := 2, slots := 33, locals := 207 } : Room)).room s m ([.ref (ad 6)] : List Value).toArray below meth c H locs 0 0 (MQ below (va_Qi Q (rt_B D cA ad) (rt_fr ad s.heap.size)) ([.ref (ad 6)] : List Value).toArray s 2 33 (rt_fr ad s.heap.size)) (F0 m 29 ls []) := by
    intro n29
    induction n29 with
    | zero => intro x1 M H locs ls hw; exact hw.elim
    | succ n29 ih29 =>
      intro x1 M H locs ls hw hP hS hl
      replace hw : lbX9_start_29 Q (lpX9_start_29 Q n29) x1 M := hw
      unfold lbX9_start_29 at hw
      refine lv_iload_n hx hb dX9_start_29 rfl (lv_at hl 1 rfl) ?_
      refine lv_iconst (v := 4) hx hb dX9_start_30 (by decide) ?_
      refine lv_icmp_ge (tgt := 47) hx hb dX9_start_31 (by decide) (fun hc31 => ?_) (fun hc31 => ?_)
      · replace hw := hw.1 hc31
        refine lv_iconst (v := 0) hx hb dX9_start_47 (by decide) ?_
        refine lv_istore_n (lv' := [(1, .int 0), (0, .ref (ad 6))]) hx hb dX9_start_48 rfl hl (by decide) rfl (fun ls hl => ?_)
        obtain ⟨n_, hw⟩ := hw
        exact L49 n_ 0 M _ _ _ hw hP hS (lv_sub hl [1, 0] rfl)
      · replace hw := hw.2 hc31
        refine lv_aload_n hx hb dX9_start_34 rfl (lv_at hl 0 rfl) ?_
        refine rt_get F hP (rt_c9 _ rt_k6) (rt_l9 rt_k6) inX9 rfl 4 (by decide) kw_1011 rfl rfl dX9_start_35 ?_
        refine lv_iload_n hx hb dX9_start_38 rfl (lv_at hl 1 rfl) ?_
        refine lv_iconst (v := 0) hx hb dX9_start_39 (by decide) ?_
        have hv40 := hw.1
        replace hw := hw.2
        refine rt_iast F hP hD hS rt_a9 hv40 dX9_start_40 (fun M_40 H locs eM_40 hP hS => ?_)
        replace hw := hw M_40 eM_40
        obtain ⟨x1_41, ex1_41⟩ : ∃ y : Int32, y = x1 + 1 := ⟨_, rfl⟩
        replace hw := hw x1_41 ex1_41
        refine lv_iinc (v := x1_41) (lv' := [(1, .int x1_41), (0, .ref (ad 6))]) hx hb dX9_start_41 hl (k := 1) rfl (by rw [ex1_41]; rfl) (by decide) rfl (fun ls hl => ?_)
        refine lv_goto (tgt := 29) hx hb dX9_start_44 (by decide) ?_
        exact ih29 x1_41 M_40 _ _ _ hw hP hS (lv_sub hl [1, 0] rfl)
  unfold wpX9_start at hw
  refine lv_aload_n hx hb dX9_start_0 rfl (lv_at hl 0 rfl) ?_
  refine lv_iconst (v := 1) hx hb dX9_start_1 (by decide) ?_
  refine rt_put F hP hD hS (rt_c9 _ rt_k6) (rt_l9 rt_k6) inX9 tyX9 tyX9_ok nmX9 rfl 0 (by decide) kw_1003 rfl rfl rfl rfl (Nat.le_of_ble_eq_true rfl) (rt_c9 _ rt_k6) dX9_start_2 (fun M_2 H locs eM_2 hP hS => ?_)
  replace hw := hw M_2 eM_2
  refine lv_aload_n hx hb dX9_start_5 rfl (lv_at hl 0 rfl) ?_
  refine lv_iconst (v := 0) hx hb dX9_start_6 (by decide) ?_
  refine rt_put F hP hD hS (rt_c9 _ rt_k6) (rt_l9 rt_k6) inX9 tyX9 tyX9_ok nmX9 rfl 7 (by decide) kw_1016 rfl rfl rfl rfl (Nat.le_of_ble_eq_true rfl) (rt_c9 _ rt_k6) dX9_start_7 (fun M_7 H locs eM_7 hP hS => ?_)
  replace hw := hw M_7 eM_7
  refine lv_aload_n hx hb dX9_start_10 rfl (lv_at hl 0 rfl) ?_
  refine lv_iconst (v := 0) hx hb dX9_start_11 (by decide) ?_
  refine rt_put F hP hD hS (rt_c9 _ rt_k6) (rt_l9 rt_k6) inX9 tyX9 tyX9_ok nmX9 rfl 8 (by decide) kw_1018 rfl rfl rfl rfl (Nat.le_of_ble_eq_true rfl) (rt_c9 _ rt_k6) dX9_start_12 (fun M_12 H locs eM_12 hP hS => ?_)
  replace hw := hw M_12 eM_12
  refine lv_aload_n hx hb dX9_start_15 rfl (lv_at hl 0 rfl) ?_
  refine lv_iconst (v := 0) hx hb dX9_start_16 (by decide) ?_
  refine rt_put F hP hD hS (rt_c9 _ rt_k6) (rt_l9 rt_k6) inX9 tyX9 tyX9_ok nmX9 rfl 9 (by decide) kw_1020 rfl rfl rfl rfl (Nat.le_of_ble_eq_true rfl) (rt_c9 _ rt_k6) dX9_start_17 (fun M_17 H locs eM_17 hP hS => ?_)
  replace hw := hw M_17 eM_17
  refine lv_aload_n hx hb dX9_start_20 rfl (lv_at hl 0 rfl) ?_
  refine rt_get F hP (rt_c9 _ rt_k6) (rt_l9 rt_k6) inX9 rfl 6 (by decide) kw_1015 rfl rfl dX9_start_21 ?_
  refine rt_callv (rt_runV (n := 0) (As := []) (rest := []) F hP hN hS (rt_frs hS.1) (rt_c13 _ rt_k11) (rt_l13 rt_k11) rfl (mtJx4a65c_clear_da8c8 l D cA ad hI _ 11 rt_k11 M_17 _ hw) kw_1308 kw_1305 kw_64 kw_1306 kw_1307 ⟨by decide, by decide, by decide +kernel⟩ ⟨rfl, rfl, Nat.le_of_ble_eq_true rfl, Nat.le_of_ble_eq_true rfl⟩ rfl hl.1 rfl (Nat.le_of_ble_eq_true rfl) dX9_start_24 ⟨Nat.le_of_ble_eq_true rfl, Nat.le_of_ble_eq_true rfl⟩) hS (fun _ h => h) (fun M_24 H locs hw hP hS _ _ => ?_)
  refine lv_iconst (v := 0) hx hb dX9_start_27 (by decide) ?_
  refine lv_istore_n (lv' := [(1, .int 0), (0, .ref (ad 6))]) hx hb dX9_start_28 rfl hl (by decide) rfl (fun ls hl => ?_)
  obtain ⟨n_, hw⟩ := hw
  exact L29 n_ 0 M_24 _ _ _ hw hP hS (lv_sub hl [1, 0] rfl)
-- ===== X12_start_
def wpX12_start_  (M : pt_M) (Q : Int32 → pt_M → Prop) : Prop :=
  wpX12_start (M 6 0) 1 M (fun (r_9 : Int32) (M_9 : pt_M) => (r_9 = 0 → wpX9_start M_9 (fun (r_23 : Int32) (M_23 : pt_M) => Q r_23 M_23)) ∧ (¬ r_9 = 0 → False))
set_option maxHeartbeats 4000000 in
set_option maxRecDepth 100000 in
theorem mtX12_start_ (l : Launch) (D : va_G) (cA : Nat → ClassId) (ad : Nat → Nat) (hI : rt_I ad) (sz : Nat) (M : pt_M) (Q : Int32 → pt_M → Prop) (hw : wpX12_start_ M Q) : Met l yX12_start_ (Cond.code yX12_start_ cX12_start_ 1 (some .int) :: lw_all) ({ frames := 10, cells := 2, slots := 33, locals := 228 } : Room) (va_Pc [.ref (ad 0)] (rt_P D cA ad sz M)) (va_Qi Q (rt_B D cA ad) (rt_fr ad sz)) 2 33 (rt_fr ad sz) := by
  refine Met.ofW (cc := cX12_start_) (maxL := 1) (ret := (some .int)) (by decide) rfl ?_
  intro p e s m args below meth c s₁ B hml hv
  obtain ⟨rfl, hsz, hP, hK, hN⟩ := hv
  have hx := B.exec
  have hb := B.bytes
  have hr := B.returns
  have hts0 := atoms_spec (ws := (Cond.code yX12_start_ cX12_start_ 1 (some .int) :: lw_all)) B.pre
  have hown : s.vm.findClass RX12 = some m.cls := findClass_of_methodNamed B.named
  have hlocks := B.notSynchronized
  subst hsz
  have F : pt_F p m c cX12_start_ 1 s _ RX12 D cA := ⟨⟨hx, hb, hml, hown, fun w h => hts0 w (List.mem_cons_of_mem _ h)⟩, hK⟩
  have hD : ∀ M, va_D (rt_fr ad s.heap.size) (rt_W cA ad M) := rt_D hI (fun k h => Or.inl ⟨k, h, rfl⟩)
  have hS : va_S (rt_fr ad s.heap.size) s.heap s.heap [] := va_S.rf
  have hl := lv_entry ([.ref (ad 0)]) (n := 1) (Nat.le_of_ble_eq_true rfl)
  rw [lg_entry_eq]
  generalize (lg_sl ([.ref (ad 0)]) ++ List.replicate (1 - (lg_sl ([.ref (ad 0)])).length) Slot.unset).toArray = ls at hl ⊢
  have hl : lv_has ls 1 [(0, .ref (ad 0))] := hl
  unfold wpX12_start_ at hw
  refine lv_aload_n hx hb dX12_start__0 rfl (lv_at hl 0 rfl) ?_
  refine lv_aload_n hx hb dX12_start__1 rfl (lv_at hl 0 rfl) ?_
  refine rt_get F hP (rt_c12 _ rt_k0) (rt_l12 rt_k0) inX12 rfl 2 (by decide) kw_1142 rfl rfl dX12_start__2 ?_
  refine rt_get F hP (rt_c9 _ rt_k6) (rt_l9 rt_k6) inX9 rfl 0 (by decide) kw_1004 rfl rfl dX12_start__5 ?_
  refine lv_iconst (v := 1) hx hb dX12_start__8 (by decide) ?_
  refine rt_calli (rt_runV (n := 2) (As := [.int (M 6 0), .int 1]) (rest := []) F hP hN hS (rt_frs hS.1) (rt_c12 _ rt_k0) (rt_l12 rt_k0) rfl (mtX12_start l D cA ad hI _ (M 6 0) 1 M _ hw) kw_1171 kw_1168 kw_60 kw_1170 kw_28 ⟨by decide, by decide, by decide +kernel⟩ ⟨rfl, rfl, Nat.le_of_ble_eq_true rfl, Nat.le_of_ble_eq_true rfl⟩ rfl hl.1 rfl (Nat.le_of_ble_eq_true rfl) dX12_start__9 ⟨Nat.le_of_ble_eq_true rfl, Nat.le_of_ble_eq_true rfl⟩) hS (fun _ h => h) (fun r_9 M_9 H locs hw hP hS _ _ => ?_)
  refine lv_if_eq (tgt := 19) hx hb dX12_start__12 (by decide) (fun hc12 => ?_) (fun hc12 => ?_)
  · replace hw := hw.1 hc12
    refine lv_aload_n hx hb dX12_start__19 rfl (lv_at hl 0 rfl) ?_
    refine rt_get F hP (rt_c12 _ rt_k0) (rt_l12 rt_k0) inX12 rfl 2 (by decide) kw_1142 rfl rfl dX12_start__20 ?_
    refine rt_callim (rt_runVm (n := 0) (As := []) (rest := []) F hP hN hS (rt_frs hS.1) (rt_c9 _ rt_k6) (rt_l9 rt_k6) rfl (mtX9_start l D cA ad hI _ M_9 _ hw) kw_1304 kw_1301 kw_65 kw_1302 kw_1303 ⟨by decide, by decide, by decide +kernel⟩ ⟨rfl, rfl, (Nat.le_of_ble_eq_true rfl), (Nat.le_of_ble_eq_true rfl)⟩ rfl hl.1 rfl (Nat.le_of_ble_eq_true rfl) dX12_start__23 ⟨(Nat.le_of_ble_eq_true rfl), (Nat.le_of_ble_eq_true rfl)⟩) hS (fun _ h => h) (fun r_23 M_23 H locs hw hP hS _ _ => ?_)
    refine W.widen (k := 2) (n := 33) (Nat.le_of_ble_eq_true rfl) (Nat.le_of_ble_eq_true rfl) ?_
    exact W.iret (v := r_23) hx hb hr (fun t ht hW => ⟨⟨r_23, M_23, rfl, hw, by unfold rt_B; rw [ht]; exact hP⟩, hS.F ht⟩) hS.2.2 dX12_start__26
  · replace hw := hw.2 hc12
    exact hw.elim
