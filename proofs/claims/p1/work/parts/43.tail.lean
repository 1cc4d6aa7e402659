-- ===== X12_addState
def wjX12_addState_105 (p1 : Int32) (p2 : Int32) (Q : Int32 → pt_M → Prop)  (xs1 : Int32) (M : pt_M) : Prop :=
  wpX12_refuse xs1 3 M (fun (r_106 : Int32) (M_106 : pt_M) => (r_106 = 0 → M_106 2 2 = 1 ∧ Q (((1 + 1) - 1)) M_106) ∧ (¬ r_106 = 0 → Q 0 M_106))
def wjX12_addState_104 (p1 : Int32) (p2 : Int32) (Q : Int32 → pt_M → Prop)   (M : pt_M) : Prop :=
  wjX12_addState_105 p1 p2 Q 0 M
def wjX12_addState_100 (p1 : Int32) (p2 : Int32) (Q : Int32 → pt_M → Prop)   (M : pt_M) : Prop :=
  wjX12_addState_105 p1 p2 Q 1 M
def wjX12_addState_51 (p1 : Int32) (p2 : Int32) (Q : Int32 → pt_M → Prop)   (M : pt_M) : Prop :=
  Q 0 M
def wjX12_addState_31 (p1 : Int32) (p2 : Int32) (Q : Int32 → pt_M → Prop)  (xs1 : Int32) (M : pt_M) : Prop :=
  wpX12_start xs1 1 M (fun (r_32 : Int32) (M_32 : pt_M) => (¬ r_32 = 0 → wjX12_addState_51 p1 p2 Q M_32) ∧ (r_32 = 0 → wpX12_isNoState p1 M_32 (fun (r_41 : Int32) (M_41 : pt_M) => wpX12_refuse r_41 2 M_41 (fun (r_45 : Int32) (M_45 : pt_M) => (r_45 = 0 → wpX12_isIn p2 0 4 M_45 (fun (r_57 : Int32) (M_57 : pt_M) => (r_57 = 0 → wjX12_addState_100 p1 p2 Q M_57) ∧ (¬ r_57 = 0 → wpJx4a65c_get_915e3 p1 M_57 (fun (M_71 : pt_M) => wpX10_isOpen M_71 (fun (r_77 : Int32) (M_77 : pt_M) => (r_77 = 0 → wjX12_addState_100 p1 p2 Q M_77) ∧ (¬ r_77 = 0 → (¬ p2 = 2 → wjX12_addState_104 p1 p2 Q M_77) ∧ (p2 = 2 → wpX8_kind p1 M_77 (fun (r_93 : Int32) (M_93 : pt_M) => (¬ r_93 = 1 → wjX12_addState_104 p1 p2 Q M_93) ∧ (r_93 = 1 → wjX12_addState_100 p1 p2 Q M_93))))))))) ∧ (¬ r_45 = 0 → wjX12_addState_51 p1 p2 Q M_45)))))
def wjX12_addState_26 (p1 : Int32) (p2 : Int32) (Q : Int32 → pt_M → Prop)   (M : pt_M) : Prop :=
  wjX12_addState_31 p1 p2 Q 1 M
def wpX12_addState (p1 : Int32) (p2 : Int32) (M : pt_M) (Q : Int32 → pt_M → Prop) : Prop :=
  (¬ (M 6 0) = 0 → wjX12_addState_26 p1 p2 Q M) ∧ ((M 6 0) = 0 → wpJx4a65c_size_8abf5 2 M (fun (r_18 : Int32) (M_18 : pt_M) => (¬ r_18 = 20 → wjX12_addState_31 p1 p2 Q 0 M_18) ∧ (r_18 = 20 → wjX12_addState_26 p1 p2 Q M_18)))
set_option maxHeartbeats 4000000 in
set_option maxRecDepth 100000 in
theorem mtX12_addState (l : Launch) (D : va_G) (cA : Nat → ClassId) (ad : Nat → Nat) (hI : rt_I ad) (sz : Nat) (p1 : Int32) (p2 : Int32) (M : pt_M) (Q : Int32 → pt_M → Prop) (hw : wpX12_addState p1 p2 M Q) : Met l yX12_addState (Cond.code yX12_addState cX12_addState 3 (some .int) :: lw_all) ({ frames := 4, cells := 1, slots := 5, locals := 85 } : Room) (va_Pc [.ref (ad 0), .int p1, .int p2] (rt_P D cA ad sz M)) (va_Qi Q (rt_B0 D cA ad) (rt_fr ad sz)) 1 5 (rt_fr ad sz) := by
  refine Met.ofW (cc := cX12_addState) (maxL := 3) (ret := (some .int)) (by decide) rfl ?_
  intro p e s m args below meth c s₁ B hml hv
  obtain ⟨rfl, hsz, hP, hK, hN⟩ := hv
  have hx := B.exec
  have hb := B.bytes
  have hr := B.returns
  have hts0 := atoms_spec (ws := (Cond.code yX12_addState cX12_addState 3 (some .int) :: lw_all)) B.pre
  have hown : s.vm.findClass RX12 = some m.cls := findClass_of_methodNamed B.named
  have hlocks := B.notSynchronized
  subst hsz
  have F : pt_F p m c cX12_addState 3 s _ RX12 D cA := ⟨⟨hx, hb, hml, hown, fun w h => hts0 w (List.mem_cons_of_mem _ h)⟩, hK⟩
  have hD : ∀ M, va_D (rt_fr ad s.heap.size) (rt_W cA ad M) := rt_D hI (fun k h => Or.inl ⟨k, h, rfl⟩)
  have hS : va_S (rt_fr ad s.heap.size) s.heap s.heap [] := va_S.rf
  have hl := lv_entry ([.ref (ad 0), .int p1, .int p2]) (n := 3) (Nat.le_of_ble_eq_true rfl)
  rw [lg_entry_eq]
  generalize (lg_sl ([.ref (ad 0), .int p1, .int p2]) ++ List.replicate (3 - (lg_sl ([.ref (ad 0), .int p1, .int p2])).length) Slot.unset).toArray = ls at hl ⊢
  have hl : lv_has ls 3 [(0, .ref (ad 0)), (1, .int p1), (2, .int p2)] := hl
  have J105 : ∀ (xs1 : Int32) (M : pt_M) (H : Heap) (locs : List Loc) (ls : Array Slot), wjX12_addState_105 p1 p2 Q xs1 M → va_P D pt_cl (rt_W cA ad M) H → va_S (rt_fr ad s.heap.size) s.heap H locs → lv_has ls 3 [(0, .ref (ad 0)), (1, .int p1), (2, .int p2)] → W p l e (headSpec (Cond.code yX12_addState cX12_addState 3 (some .int) :: lw_all) ({ frames := 4, cells := 1, slots := 5, locals := 85 } : Room)).room s m ([.ref (ad 0), .int p1, .int p2] : List Value).toArray below meth c H locs 0 0 (MQ below (va_Qi Q (rt_B0 D cA ad) (rt_fr ad s.heap.size)) ([.ref (ad 0), .int p1, .int p2] : List Value).toArray s 1 5 (rt_fr ad s.heap.size)) (F0 m 105 ls [.int xs1, .ref (ad 0)]) := by
    intro xs1 M H locs ls hw hP hS hl
    unfold wjX12_addState_105 at hw
    refine lv_iconst (v := 3) hx hb dX12_addState_105 (by decide) ?_
    refine rt_calli (rt_runV (n := 2) (As := [.int xs1, .int 3]) (rest := []) F hP hN hS (rt_frs hS.1) (rt_c12 _ rt_k0) (rt_l12 rt_k0) rfl (mtX12_refuse l D cA ad hI _ xs1 3 M _ hw) kw_1175 kw_1172 kw_60 kw_1174 kw_29 ⟨by decide, by decide, by decide +kernel⟩ ⟨rfl, rfl, Nat.le_of_ble_eq_true rfl, Nat.le_of_ble_eq_true rfl⟩ rfl hl.1 rfl (Nat.le_of_ble_eq_true rfl) dX12_addState_106 ⟨Nat.zero_le _, Nat.zero_le _⟩) hS (fun _ h => h) (fun r_106 M_106 H locs hw hP hS _ _ => ?_)
    refine lv_if_eq (tgt := 114) hx hb dX12_addState_109 (by decide) (fun hc109 => ?_) (fun hc109 => ?_)
    · replace hw := hw.1 hc109
      refine lv_aload_n hx hb dX12_addState_114 rfl (lv_at hl 0 rfl) ?_
      refine rt_get F hP (rt_c12 _ rt_k0) (rt_l12 rt_k0) inX12 rfl 1 (by decide) kw_1140 rfl rfl dX12_addState_115 ?_
      refine rt_get F hP (rt_c8 _ rt_k1) (rt_l8 rt_k1) inX8 rfl 0 (by decide) kw_985 rfl rfl dX12_addState_118 ?_
      have h0 := hw.1
      replace hw := hw.2
      replace hP := (show ∀ n : Int32, n = M_106 2 2 → va_P D pt_cl (([] : va_W) ++ [((ad 0), .inr (12, [.int (M_106 0 0), .ref (ad 1), .ref (ad 6), .ref (ad 12), .int (M_106 0 4)])), ((ad 1), .inr (8, [.ref (ad 2), .ref (ad 5)])), ((ad 2), .inr (13, [.int (M_106 2 0), .ref (ad 3), .int n])), ((ad 3), .inl (cA 4, 10, .inr (.inr (.inr (.inr (fun i => if i = 0 then some (ad 4) else none)))))), ((ad 4), .inr (10, [.int (M_106 4 0), .int (M_106 4 1), .int (M_106 4 2), .ref (ad 13), .ref (ad 13)])), ((ad 5), .inr (13, [.int (M_106 5 0), .ref (ad 14), .int (M_106 5 2)])), ((ad 6), .inr (9, [.int (M_106 6 0), .int (M_106 6 1), .ref (ad 7), .ref (ad 8), .ref (ad 9), .ref (ad 10), .ref (ad 11), .int (M_106 6 7), .int (M_106 6 8), .int (M_106 6 9), .ref (ad 0)])), ((ad 7), .inl (cA 0, 20, .inl (M_106 7))), ((ad 8), .inl (cA 0, 20, .inl (M_106 8))), ((ad 9), .inl (cA 0, 4, .inl (M_106 9))), ((ad 10), .inl (cA 0, 30, .inl (M_106 10))), ((ad 11), .inr (13, [.int (M_106 11 0), .ref (ad 14), .int (M_106 11 2)])), ((ad 12), .inl (cA 0, 0, .inl (M_106 12)))]) H from fun n e => by subst e; exact hP) 1 h0.symm
      replace hD := (show ∀ n : Int32, n = M_106 2 2 → va_D (rt_fr ad s.heap.size) (([] : va_W) ++ [((ad 0), .inr (12, [.int (M_106 0 0), .ref (ad 1), .ref (ad 6), .ref (ad 12), .int (M_106 0 4)])), ((ad 1), .inr (8, [.ref (ad 2), .ref (ad 5)])), ((ad 2), .inr (13, [.int (M_106 2 0), .ref (ad 3), .int n])), ((ad 3), .inl (cA 4, 10, .inr (.inr (.inr (.inr (fun i => if i = 0 then some (ad 4) else none)))))), ((ad 4), .inr (10, [.int (M_106 4 0), .int (M_106 4 1), .int (M_106 4 2), .ref (ad 13), .ref (ad 13)])), ((ad 5), .inr (13, [.int (M_106 5 0), .ref (ad 14), .int (M_106 5 2)])), ((ad 6), .inr (9, [.int (M_106 6 0), .int (M_106 6 1), .ref (ad 7), .ref (ad 8), .ref (ad 9), .ref (ad 10), .ref (ad 11), .int (M_106 6 7), .int (M_106 6 8), .int (M_106 6 9), .ref (ad 0)])), ((ad 7), .inl (cA 0, 20, .inl (M_106 7))), ((ad 8), .inl (cA 0, 20, .inl (M_106 8))), ((ad 9), .inl (cA 0, 4, .inl (M_106 9))), ((ad 10), .inl (cA 0, 30, .inl (M_106 10))), ((ad 11), .inr (13, [.int (M_106 11 0), .ref (ad 14), .int (M_106 11 2)])), ((ad 12), .inl (cA 0, 0, .inl (M_106 12)))]) from fun n e => by subst e; exact hD M_106) 1 h0.symm
      have hA : ∀ q, s.heap.size ≤ q → rt_fr ad s.heap.size q := fun q h => Or.inr h
      have s_cb : 1 ≤ (headSpec (Cond.code yX12_addState cX12_addState 3 (some .int) :: lw_all) ({ frames := 4, cells := 1, slots := 5, locals := 85 } : Room)).room.cells := (Nat.le_of_ble_eq_true rfl)
      have s_sb : 5 ≤ (headSpec (Cond.code yX12_addState cX12_addState 3 (some .int) :: lw_all) ({ frames := 4, cells := 1, slots := 5, locals := 85 } : Room)).room.slots := (Nat.le_of_ble_eq_true rfl)
      refine pt_ynew (ci := 10) (fs := [.int 0, .int 0, .int 0, .null, .null]) F hP hD hS hA inX10 tyX10 tyX10_ok kw_1046 kw_1047 kw_66 rfl (fun j hj => by rcases (show j = 0 ∨ j = 1 ∨ j = 2 ∨ j = 3 ∨ j = 4 by omega) with rfl | rfl | rfl | rfl | rfl <;> rfl) (Nat.le_trans (Nat.le_of_ble_eq_true rfl) s_cb) (Nat.le_trans (Nat.le_of_ble_eq_true rfl) s_sb) dX12_addState_121 (fun q121 H hP hD hS => ?_)
      replace hP : va_P D pt_cl (([] : va_W) ++ [((ad 0), .inr (12, [.int (M_106 0 0), .ref (ad 1), .ref (ad 6), .ref (ad 12), .int (M_106 0 4)])), ((ad 1), .inr (8, [.ref (ad 2), .ref (ad 5)])), ((ad 2), .inr (13, [.int (M_106 2 0), .ref (ad 3), .int 1])), ((ad 3), .inl (cA 4, 10, .inr (.inr (.inr (.inr (fun i => if i = 0 then some (ad 4) else none)))))), ((ad 4), .inr (10, [.int (M_106 4 0), .int (M_106 4 1), .int (M_106 4 2), .ref (ad 13), .ref (ad 13)])), ((ad 5), .inr (13, [.int (M_106 5 0), .ref (ad 14), .int (M_106 5 2)])), ((ad 6), .inr (9, [.int (M_106 6 0), .int (M_106 6 1), .ref (ad 7), .ref (ad 8), .ref (ad 9), .ref (ad 10), .ref (ad 11), .int (M_106 6 7), .int (M_106 6 8), .int (M_106 6 9), .ref (ad 0)])), ((ad 7), .inl (cA 0, 20, .inl (M_106 7))), ((ad 8), .inl (cA 0, 20, .inl (M_106 8))), ((ad 9), .inl (cA 0, 4, .inl (M_106 9))), ((ad 10), .inl (cA 0, 30, .inl (M_106 10))), ((ad 11), .inr (13, [.int (M_106 11 0), .ref (ad 14), .int (M_106 11 2)])), ((ad 12), .inl (cA 0, 0, .inl (M_106 12))), (q121, .inr (10, [.int 0, .int 0, .int 0, .null, .null]))]) H := hP
      replace hD : va_D (rt_fr ad s.heap.size) (([] : va_W) ++ [((ad 0), .inr (12, [.int (M_106 0 0), .ref (ad 1), .ref (ad 6), .ref (ad 12), .int (M_106 0 4)])), ((ad 1), .inr (8, [.ref (ad 2), .ref (ad 5)])), ((ad 2), .inr (13, [.int (M_106 2 0), .ref (ad 3), .int 1])), ((ad 3), .inl (cA 4, 10, .inr (.inr (.inr (.inr (fun i => if i = 0 then some (ad 4) else none)))))), ((ad 4), .inr (10, [.int (M_106 4 0), .int (M_106 4 1), .int (M_106 4 2), .ref (ad 13), .ref (ad 13)])), ((ad 5), .inr (13, [.int (M_106 5 0), .ref (ad 14), .int (M_106 5 2)])), ((ad 6), .inr (9, [.int (M_106 6 0), .int (M_106 6 1), .ref (ad 7), .ref (ad 8), .ref (ad 9), .ref (ad 10), .ref (ad 11), .int (M_106 6 7), .int (M_106 6 8), .int (M_106 6 9), .ref (ad 0)])), ((ad 7), .inl (cA 0, 20, .inl (M_106 7))), ((ad 8), .inl (cA 0, 20, .inl (M_106 8))), ((ad 9), .inl (cA 0, 4, .inl (M_106 9))), ((ad 10), .inl (cA 0, 30, .inl (M_106 10))), ((ad 11), .inr (13, [.int (M_106 11 0), .ref (ad 14), .int (M_106 11 2)])), ((ad 12), .inl (cA 0, 0, .inl (M_106 12))), (q121, .inr (10, [.int 0, .int 0, .int 0, .null, .null]))]) := hD
      refine W.widen (k := 1) (n := 5) (Nat.le_of_ble_eq_true rfl) (Nat.le_of_ble_eq_true rfl) ?_
      refine lv_dup hx hb dX12_addState_124 rfl ?_
      refine lv_iload_n hx hb dX12_addState_125 rfl (lv_at hl 1 rfl) ?_
      refine lv_iload_n hx hb dX12_addState_126 rfl (lv_at hl 2 rfl) ?_
      refine sx_callv (wc := [(q121, .inr (10, [.int 0, .int 0, .int 0, .null, .null]))]) (wr := [((ad 0), .inr (12, [.int (M_106 0 0), .ref (ad 1), .ref (ad 6), .ref (ad 12), .int (M_106 0 4)])), ((ad 1), .inr (8, [.ref (ad 2), .ref (ad 5)])), ((ad 2), .inr (13, [.int (M_106 2 0), .ref (ad 3), .int 1])), ((ad 3), .inl (cA 4, 10, .inr (.inr (.inr (.inr (fun i => if i = 0 then some (ad 4) else none)))))), ((ad 4), .inr (10, [.int (M_106 4 0), .int (M_106 4 1), .int (M_106 4 2), .ref (ad 13), .ref (ad 13)])), ((ad 5), .inr (13, [.int (M_106 5 0), .ref (ad 14), .int (M_106 5 2)])), ((ad 6), .inr (9, [.int (M_106 6 0), .int (M_106 6 1), .ref (ad 7), .ref (ad 8), .ref (ad 9), .ref (ad 10), .ref (ad 11), .int (M_106 6 7), .int (M_106 6 8), .int (M_106 6 9), .ref (ad 0)])), ((ad 7), .inl (cA 0, 20, .inl (M_106 7))), ((ad 8), .inl (cA 0, 20, .inl (M_106 8))), ((ad 9), .inl (cA 0, 4, .inl (M_106 9))), ((ad 10), .inl (cA 0, 30, .inl (M_106 10))), ((ad 11), .inr (13, [.int (M_106 11 0), .ref (ad 14), .int (M_106 11 2)])), ((ad 12), .inl (cA 0, 0, .inl (M_106 12)))]) (pt_krun (n := 2) (As := [.int p1, .int p2]) (rest := [.ref q121, .ref (ad 2)]) F (mtST l D cA _ (ad 13) (ad 14) q121 p1 p2 ) sx_blind (sx_pre (wc := [(q121, .inr (10, [.int 0, .int 0, .int 0, .null, .null]))]) F hP hD hN hS hA [13] rfl rfl) kw_1050 (Or.inl kw_1048) kw_66 kw_1049 rfl ⟨by decide, by decide, by decide +kernel⟩ ⟨rfl, rfl, (Nat.le_of_ble_eq_true rfl), (Nat.le_of_ble_eq_true rfl)⟩ rfl hl.1 rfl (Nat.le_of_ble_eq_true rfl) dX12_addState_127 ⟨(Nat.le_trans (Nat.le_of_ble_eq_true rfl) s_cb), (Nat.le_trans (Nat.le_of_ble_eq_true rfl) s_sb)⟩) hP hD hS hA [13] [0, 1, 2, 3, 4, 5, 6, 7, 8, 9, 10, 11, 12] rfl rfl rfl (by decide) (fun _ H locs _ hP hD hS => ?_)
      replace hP : va_P D pt_cl (([] : va_W) ++ [((ad 0), .inr (12, [.int (M_106 0 0), .ref (ad 1), .ref (ad 6), .ref (ad 12), .int (M_106 0 4)])), ((ad 1), .inr (8, [.ref (ad 2), .ref (ad 5)])), ((ad 2), .inr (13, [.int (M_106 2 0), .ref (ad 3), .int 1])), ((ad 3), .inl (cA 4, 10, .inr (.inr (.inr (.inr (fun i => if i = 0 then some (ad 4) else none)))))), ((ad 4), .inr (10, [.int (M_106 4 0), .int (M_106 4 1), .int (M_106 4 2), .ref (ad 13), .ref (ad 13)])), ((ad 5), .inr (13, [.int (M_106 5 0), .ref (ad 14), .int (M_106 5 2)])), ((ad 6), .inr (9, [.int (M_106 6 0), .int (M_106 6 1), .ref (ad 7), .ref (ad 8), .ref (ad 9), .ref (ad 10), .ref (ad 11), .int (M_106 6 7), .int (M_106 6 8), .int (M_106 6 9), .ref (ad 0)])), ((ad 7), .inl (cA 0, 20, .inl (M_106 7))), ((ad 8), .inl (cA 0, 20, .inl (M_106 8))), ((ad 9), .inl (cA 0, 4, .inl (M_106 9))), ((ad 10), .inl (cA 0, 30, .inl (M_106 10))), ((ad 11), .inr (13, [.int (M_106 11 0), .ref (ad 14), .int (M_106 11 2)])), ((ad 12), .inl (cA 0, 0, .inl (M_106 12))), (q121, .inr (10, [.int p1, .int p2, .int (-1), .ref (ad 13), .ref (ad 13)]))]) H := hP
      replace hD : va_D (rt_fr ad s.heap.size) (([] : va_W) ++ [((ad 0), .inr (12, [.int (M_106 0 0), .ref (ad 1), .ref (ad 6), .ref (ad 12), .int (M_106 0 4)])), ((ad 1), .inr (8, [.ref (ad 2), .ref (ad 5)])), ((ad 2), .inr (13, [.int (M_106 2 0), .ref (ad 3), .int 1])), ((ad 3), .inl (cA 4, 10, .inr (.inr (.inr (.inr (fun i => if i = 0 then some (ad 4) else none)))))), ((ad 4), .inr (10, [.int (M_106 4 0), .int (M_106 4 1), .int (M_106 4 2), .ref (ad 13), .ref (ad 13)])), ((ad 5), .inr (13, [.int (M_106 5 0), .ref (ad 14), .int (M_106 5 2)])), ((ad 6), .inr (9, [.int (M_106 6 0), .int (M_106 6 1), .ref (ad 7), .ref (ad 8), .ref (ad 9), .ref (ad 10), .ref (ad 11), .int (M_106 6 7), .int (M_106 6 8), .int (M_106 6 9), .ref (ad 0)])), ((ad 7), .inl (cA 0, 20, .inl (M_106 7))), ((ad 8), .inl (cA 0, 20, .inl (M_106 8))), ((ad 9), .inl (cA 0, 4, .inl (M_106 9))), ((ad 10), .inl (cA 0, 30, .inl (M_106 10))), ((ad 11), .inr (13, [.int (M_106 11 0), .ref (ad 14), .int (M_106 11 2)])), ((ad 12), .inl (cA 0, 0, .inl (M_106 12))), (q121, .inr (10, [.int p1, .int p2, .int (-1), .ref (ad 13), .ref (ad 13)]))]) := hD
      refine W.widen (k := 1) (n := 5) (Nat.le_of_ble_eq_true rfl) (Nat.le_of_ble_eq_true rfl) ?_
      refine sx_calli (wc := [((ad 2), .inr (13, [.int (M_106 2 0), .ref (ad 3), .int 1])), ((ad 3), .inl (cA 4, 10, .inr (.inr (.inr (.inr (fun i => if i = 0 then some (ad 4) else none)))))), (q121, .inr (10, [.int p1, .int p2, .int (-1), .ref (ad 13), .ref (ad 13)]))]) (wr := [((ad 0), .inr (12, [.int (M_106 0 0), .ref (ad 1), .ref (ad 6), .ref (ad 12), .int (M_106 0 4)])), ((ad 1), .inr (8, [.ref (ad 2), .ref (ad 5)])), ((ad 4), .inr (10, [.int (M_106 4 0), .int (M_106 4 1), .int (M_106 4 2), .ref (ad 13), .ref (ad 13)])), ((ad 5), .inr (13, [.int (M_106 5 0), .ref (ad 14), .int (M_106 5 2)])), ((ad 6), .inr (9, [.int (M_106 6 0), .int (M_106 6 1), .ref (ad 7), .ref (ad 8), .ref (ad 9), .ref (ad 10), .ref (ad 11), .int (M_106 6 7), .int (M_106 6 8), .int (M_106 6 9), .ref (ad 0)])), ((ad 7), .inl (cA 0, 20, .inl (M_106 7))), ((ad 8), .inl (cA 0, 20, .inl (M_106 8))), ((ad 9), .inl (cA 0, 4, .inl (M_106 9))), ((ad 10), .inl (cA 0, 30, .inl (M_106 10))), ((ad 11), .inr (13, [.int (M_106 11 0), .ref (ad 14), .int (M_106 11 2)])), ((ad 12), .inl (cA 0, 0, .inl (M_106 12)))]) (sx_runV (n := 1) (As := [.ref q121]) (rest := []) F hP 2 rfl rfl (mtA1s l D cA _ (ad 13) (ad 14) ((ad 2)) ((ad 3)) q121 ((M_106 2 0)) ((fun i => if i = 0 then some (ad 4) else none)) 10 ([.int p1, .int p2, .int (-1), .ref (ad 13), .ref (ad 13)]) (show pt_cl[10]? = some (RX10, TX10, 5) from rfl) kw_1655) sx_blind (sx_pre (wc := [((ad 2), .inr (13, [.int (M_106 2 0), .ref (ad 3), .int 1])), ((ad 3), .inl (cA 4, 10, .inr (.inr (.inr (.inr (fun i => if i = 0 then some (ad 4) else none)))))), (q121, .inr (10, [.int p1, .int p2, .int (-1), .ref (ad 13), .ref (ad 13)]))]) F hP hD hN hS hA [2, 3, 13] rfl rfl) kw_1083 kw_1080 kw_64 kw_1081 kw_1082 ⟨by decide, by decide, by decide +kernel⟩ ⟨rfl, rfl, (Nat.le_of_ble_eq_true rfl), (Nat.le_of_ble_eq_true rfl)⟩ rfl hl.1 rfl (Nat.le_of_ble_eq_true rfl) dX12_addState_130 ⟨(Nat.le_trans (Nat.le_of_ble_eq_true rfl) s_cb), (Nat.le_trans (Nat.le_of_ble_eq_true rfl) s_sb)⟩) hP hD hS hA [2, 3, 13] [0, 1, 4, 5, 6, 7, 8, 9, 10, 11, 12] rfl rfl rfl (by decide) (fun r_130 _ H locs e_130 hP hD hS => ?_)
      obtain rfl := e_130
      replace hP : va_P D pt_cl (([] : va_W) ++ [((ad 0), .inr (12, [.int (M_106 0 0), .ref (ad 1), .ref (ad 6), .ref (ad 12), .int (M_106 0 4)])), ((ad 1), .inr (8, [.ref (ad 2), .ref (ad 5)])), ((ad 4), .inr (10, [.int (M_106 4 0), .int (M_106 4 1), .int (M_106 4 2), .ref (ad 13), .ref (ad 13)])), ((ad 5), .inr (13, [.int (M_106 5 0), .ref (ad 14), .int (M_106 5 2)])), ((ad 6), .inr (9, [.int (M_106 6 0), .int (M_106 6 1), .ref (ad 7), .ref (ad 8), .ref (ad 9), .ref (ad 10), .ref (ad 11), .int (M_106 6 7), .int (M_106 6 8), .int (M_106 6 9), .ref (ad 0)])), ((ad 7), .inl (cA 0, 20, .inl (M_106 7))), ((ad 8), .inl (cA 0, 20, .inl (M_106 8))), ((ad 9), .inl (cA 0, 4, .inl (M_106 9))), ((ad 10), .inl (cA 0, 30, .inl (M_106 10))), ((ad 11), .inr (13, [.int (M_106 11 0), .ref (ad 14), .int (M_106 11 2)])), ((ad 12), .inl (cA 0, 0, .inl (M_106 12))), ((ad 2), .inr (13, [.int ((M_106 2 0) + 1), .ref (ad 3), .int (1 + 1)])), ((ad 3), .inl (cA 4, 10, .inr (.inr (.inr (.inr (va_up (fun i => if i = 0 then some (ad 4) else none) 1 (some q121))))))), (q121, .inr (10, [.int p1, .int p2, .int (-1), .ref (ad 13), .ref (ad 13)]))]) H := hP
      replace hD : va_D (rt_fr ad s.heap.size) (([] : va_W) ++ [((ad 0), .inr (12, [.int (M_106 0 0), .ref (ad 1), .ref (ad 6), .ref (ad 12), .int (M_106 0 4)])), ((ad 1), .inr (8, [.ref (ad 2), .ref (ad 5)])), ((ad 4), .inr (10, [.int (M_106 4 0), .int (M_106 4 1), .int (M_106 4 2), .ref (ad 13), .ref (ad 13)])), ((ad 5), .inr (13, [.int (M_106 5 0), .ref (ad 14), .int (M_106 5 2)])), ((ad 6), .inr (9, [.int (M_106 6 0), .int (M_106 6 1), .ref (ad 7), .ref (ad 8), .ref (ad 9), .ref (ad 10), .ref (ad 11), .int (M_106 6 7), .int (M_106 6 8), .int (M_106 6 9), .ref (ad 0)])), ((ad 7), .inl (cA 0, 20, .inl (M_106 7))), ((ad 8), .inl (cA 0, 20, .inl (M_106 8))), ((ad 9), .inl (cA 0, 4, .inl (M_106 9))), ((ad 10), .inl (cA 0, 30, .inl (M_106 10))), ((ad 11), .inr (13, [.int (M_106 11 0), .ref (ad 14), .int (M_106 11 2)])), ((ad 12), .inl (cA 0, 0, .inl (M_106 12))), ((ad 2), .inr (13, [.int ((M_106 2 0) + 1), .ref (ad 3), .int (1 + 1)])), ((ad 3), .inl (cA 4, 10, .inr (.inr (.inr (.inr (va_up (fun i => if i = 0 then some (ad 4) else none) 1 (some q121))))))), (q121, .inr (10, [.int p1, .int p2, .int (-1), .ref (ad 13), .ref (ad 13)]))]) := hD
      refine W.widen (k := 1) (n := 5) (Nat.le_of_ble_eq_true rfl) (Nat.le_of_ble_eq_true rfl) ?_
      refine lv_pop hx hb dX12_addState_133 rfl ?_
      refine lv_aload_n hx hb dX12_addState_134 rfl (lv_at hl 0 rfl) ?_
      refine sx_get F hP 0 rfl inX12 rfl 1 (by decide) kw_1140 rfl rfl dX12_addState_135 ?_
      refine sx_get F hP 1 rfl inX8 rfl 0 (by decide) kw_985 rfl rfl dX12_addState_138 ?_
      refine sx_calli (wc := [((ad 2), .inr (13, [.int ((M_106 2 0) + 1), .ref (ad 3), .int (1 + 1)]))]) (wr := [((ad 0), .inr (12, [.int (M_106 0 0), .ref (ad 1), .ref (ad 6), .ref (ad 12), .int (M_106 0 4)])), ((ad 1), .inr (8, [.ref (ad 2), .ref (ad 5)])), ((ad 4), .inr (10, [.int (M_106 4 0), .int (M_106 4 1), .int (M_106 4 2), .ref (ad 13), .ref (ad 13)])), ((ad 5), .inr (13, [.int (M_106 5 0), .ref (ad 14), .int (M_106 5 2)])), ((ad 6), .inr (9, [.int (M_106 6 0), .int (M_106 6 1), .ref (ad 7), .ref (ad 8), .ref (ad 9), .ref (ad 10), .ref (ad 11), .int (M_106 6 7), .int (M_106 6 8), .int (M_106 6 9), .ref (ad 0)])), ((ad 7), .inl (cA 0, 20, .inl (M_106 7))), ((ad 8), .inl (cA 0, 20, .inl (M_106 8))), ((ad 9), .inl (cA 0, 4, .inl (M_106 9))), ((ad 10), .inl (cA 0, 30, .inl (M_106 10))), ((ad 11), .inr (13, [.int (M_106 11 0), .ref (ad 14), .int (M_106 11 2)])), ((ad 12), .inl (cA 0, 0, .inl (M_106 12))), ((ad 3), .inl (cA 4, 10, .inr (.inr (.inr (.inr (va_up (fun i => if i = 0 then some (ad 4) else none) 1 (some q121))))))), (q121, .inr (10, [.int p1, .int p2, .int (-1), .ref (ad 13), .ref (ad 13)]))]) (sx_runV (n := 0) (As := []) (rest := []) F hP 11 rfl rfl (mtSZ l D cA _ (ad 13) (ad 14) ((ad 2)) (((M_106 2 0) + 1)) ((ad 3)) ((1 + 1)) ) sx_blind (sx_pre (wc := [((ad 2), .inr (13, [.int ((M_106 2 0) + 1), .ref (ad 3), .int (1 + 1)]))]) F hP hD hN hS hA [11] rfl rfl) kw_1167 kw_1164 kw_64 kw_1165 kw_1166 ⟨by decide, by decide, by decide +kernel⟩ ⟨rfl, rfl, (Nat.le_of_ble_eq_true rfl), (Nat.le_of_ble_eq_true rfl)⟩ rfl hl.1 rfl (Nat.le_of_ble_eq_true rfl) dX12_addState_141 ⟨(Nat.le_trans (Nat.le_of_ble_eq_true rfl) s_cb), (Nat.le_trans (Nat.le_of_ble_eq_true rfl) s_sb)⟩) hP hD hS hA [11] [0, 1, 2, 3, 4, 5, 6, 7, 8, 9, 10, 12, 13] rfl rfl rfl (by decide) (fun r_141 _ H locs e_141 hP hD hS => ?_)
      obtain rfl := e_141
      replace hP : va_P D pt_cl (([] : va_W) ++ [((ad 0), .inr (12, [.int (M_106 0 0), .ref (ad 1), .ref (ad 6), .ref (ad 12), .int (M_106 0 4)])), ((ad 1), .inr (8, [.ref (ad 2), .ref (ad 5)])), ((ad 4), .inr (10, [.int (M_106 4 0), .int (M_106 4 1), .int (M_106 4 2), .ref (ad 13), .ref (ad 13)])), ((ad 5), .inr (13, [.int (M_106 5 0), .ref (ad 14), .int (M_106 5 2)])), ((ad 6), .inr (9, [.int (M_106 6 0), .int (M_106 6 1), .ref (ad 7), .ref (ad 8), .ref (ad 9), .ref (ad 10), .ref (ad 11), .int (M_106 6 7), .int (M_106 6 8), .int (M_106 6 9), .ref (ad 0)])), ((ad 7), .inl (cA 0, 20, .inl (M_106 7))), ((ad 8), .inl (cA 0, 20, .inl (M_106 8))), ((ad 9), .inl (cA 0, 4, .inl (M_106 9))), ((ad 10), .inl (cA 0, 30, .inl (M_106 10))), ((ad 11), .inr (13, [.int (M_106 11 0), .ref (ad 14), .int (M_106 11 2)])), ((ad 12), .inl (cA 0, 0, .inl (M_106 12))), ((ad 3), .inl (cA 4, 10, .inr (.inr (.inr (.inr (va_up (fun i => if i = 0 then some (ad 4) else none) 1 (some q121))))))), (q121, .inr (10, [.int p1, .int p2, .int (-1), .ref (ad 13), .ref (ad 13)])), ((ad 2), .inr (13, [.int ((M_106 2 0) + 1), .ref (ad 3), .int (1 + 1)]))]) H := hP
      replace hD : va_D (rt_fr ad s.heap.size) (([] : va_W) ++ [((ad 0), .inr (12, [.int (M_106 0 0), .ref (ad 1), .ref (ad 6), .ref (ad 12), .int (M_106 0 4)])), ((ad 1), .inr (8, [.ref (ad 2), .ref (ad 5)])), ((ad 4), .inr (10, [.int (M_106 4 0), .int (M_106 4 1), .int (M_106 4 2), .ref (ad 13), .ref (ad 13)])), ((ad 5), .inr (13, [.int (M_106 5 0), .ref (ad 14), .int (M_106 5 2)])), ((ad 6), .inr (9, [.int (M_106 6 0), .int (M_106 6 1), .ref (ad 7), .ref (ad 8), .ref (ad 9), .ref (ad 10), .ref (ad 11), .int (M_106 6 7), .int (M_106 6 8), .int (M_106 6 9), .ref (ad 0)])), ((ad 7), .inl (cA 0, 20, .inl (M_106 7))), ((ad 8), .inl (cA 0, 20, .inl (M_106 8))), ((ad 9), .inl (cA 0, 4, .inl (M_106 9))), ((ad 10), .inl (cA 0, 30, .inl (M_106 10))), ((ad 11), .inr (13, [.int (M_106 11 0), .ref (ad 14), .int (M_106 11 2)])), ((ad 12), .inl (cA 0, 0, .inl (M_106 12))), ((ad 3), .inl (cA 4, 10, .inr (.inr (.inr (.inr (va_up (fun i => if i = 0 then some (ad 4) else none) 1 (some q121))))))), (q121, .inr (10, [.int p1, .int p2, .int (-1), .ref (ad 13), .ref (ad 13)])), ((ad 2), .inr (13, [.int ((M_106 2 0) + 1), .ref (ad 3), .int (1 + 1)]))]) := hD
      refine W.widen (k := 1) (n := 5) (Nat.le_of_ble_eq_true rfl) (Nat.le_of_ble_eq_true rfl) ?_
      refine lv_iconst (v := 1) hx hb dX12_addState_144 (by decide) ?_
      refine lv_isub hx hb dX12_addState_145 ?_
      exact W.iret (v := ((1 + 1) - 1)) hx hb hr (fun t ht hW => ⟨⟨_, M_106, rfl, hw, by unfold rt_B0; rw [ht]; exact hP.sub [0] rfl⟩, hS.F ht⟩) hS.2.2 dX12_addState_146
    · replace hw := hw.2 hc109
      refine lv_iconst (v := 0) hx hb dX12_addState_112 (by decide) ?_
      refine W.widen (k := 1) (n := 5) (Nat.le_of_ble_eq_true rfl) (Nat.le_of_ble_eq_true rfl) ?_
      exact W.iret (v := 0) hx hb hr (fun t ht hW => ⟨⟨0, M_106, rfl, hw, by unfold rt_B0; rw [ht]; exact hP.sub [0] rfl⟩, hS.F ht⟩) hS.2.2 dX12_addState_113
  have J104 : ∀ (M : pt_M) (H : Heap) (locs : List Loc) (ls : Array Slot), wjX12_addState_104 p1 p2 Q M → va_P D pt_cl (rt_W cA ad M) H → va_S (rt_fr ad s.heap.size) s.heap H locs → lv_has ls 3 [(0, .ref (ad 0)), (1, .int p1), (2, .int p2)] → W p l e (headSpec (Cond.code yX12_addState cX12_addState 3 (some .int) :: lw_all) ({ frames := 4, cells := 1, slots := 5, locals := 85 } : Room)).room s m ([.ref (ad 0), .int p1, .int p2] : List Value).toArray below meth c H locs 0 0 (MQ below (va_Qi Q (rt_B0 D cA ad) (rt_fr ad s.heap.size)) ([.ref (ad 0), .int p1, .int p2] : List Value).toArray s 1 5 (rt_fr ad s.heap.size)) (F0 m 104 ls [.ref (ad 0)]) := by
    intro M H locs ls hw hP hS hl
    unfold wjX12_addState_104 at hw
    refine lv_iconst (v := 0) hx hb dX12_addState_104 (by decide) ?_
    exact J105 0 M _ _ _ hw hP hS (lv_sub hl [0, 1, 2] rfl)
  have J100 : ∀ (M : pt_M) (H : Heap) (locs : List Loc) (ls : Array Slot), wjX12_addState_100 p1 p2 Q M → va_P D pt_cl (rt_W cA ad M) H → va_S (rt_fr ad s.heap.size) s.heap H locs → lv_has ls 3 [(0, .ref (ad 0)), (1, .int p1), (2, .int p2)] → W p l e (headSpec (Cond.code yX12_addState cX12_addState 3 (some .int) :: lw_all) ({ frames := 4, cells := 1, slots := 5, locals := 85 } : Room)).room s m ([.ref (ad 0), .int p1, .int p2] : List Value).toArray below meth c H locs 0 0 (MQ below (va_Qi Q (rt_B0 D cA ad) (rt_fr ad s.heap.size)) ([.ref (ad 0), .int p1, .int p2] : List Value).toArray s 1 5 (rt_fr ad s.heap.size)) (F0 m 100 ls [.ref (ad 0)]) := by
    intro M H locs ls hw hP hS hl
    unfold wjX12_addState_100 at hw
    refine lv_iconst (v := 1) hx hb dX12_addState_100 (by decide) ?_
    refine lv_goto (tgt := 105) hx hb dX12_addState_101 (by decide) ?_
    exact J105 1 M _ _ _ hw hP hS (lv_sub hl [0, 1, 2] rfl)
  have J51 : ∀ (M : pt_M) (H : Heap) (locs : List Loc) (ls : Array Slot), wjX12_addState_51 p1 p2 Q M → va_P D pt_cl (rt_W cA ad M) H → va_S (rt_fr ad s.heap.size) s.heap H locs → lv_has ls 3 [] → W p l e (headSpec (Cond.code yX12_addState cX12_addState 3 (some .int) :: lw_all) ({ frames := 4, cells := 1, slots := 5, locals := 85 } : Room)).room s m ([.ref (ad 0), .int p1, .int p2] : List Value).toArray below meth c H locs 0 0 (MQ below (va_Qi Q (rt_B0 D cA ad) (rt_fr ad s.heap.size)) ([.ref (ad 0), .int p1, .int p2] : List Value).toArray s 1 5 (rt_fr ad s.heap.size)) (F0 m 51 ls []) := by
    intro M H locs ls hw hP hS hl
    unfold wjX12_addState_51 at hw
    refine lv_iconst (v := 0) hx hb dX12_addState_51 (by decide) ?_
    refine W.widen (k := 1) (n := 5) (Nat.le_of_ble_eq_true rfl) (Nat.le_of_ble_eq_true rfl) ?_
    exact W.iret (v := 0) hx hb hr (fun t ht hW => ⟨⟨0, M, rfl, hw, by unfold rt_B0; rw [ht]; exact hP.sub [0] rfl⟩, hS.F ht⟩) hS.2.2 dX12_addState_52
  have J31 : ∀ (xs1 : Int32) (M : pt_M) (H : Heap) (locs : List Loc) (ls : Array Slot), wjX12_addState_31 p1 p2 Q xs1 M → va_P D pt_cl (rt_W cA ad M) H → va_S (rt_fr ad s.heap.size) s.heap H locs → lv_has ls 3 [(0, .ref (ad 0)), (1, .int p1), (2, .int p2)] → W p l e (headSpec (Cond.code yX12_addState cX12_addState 3 (some .int) :: lw_all) ({ frames := 4, cells := 1, slots := 5, locals := 85 } : Room)).room s m ([.ref (ad 0), .int p1, .int p2] : List Value).toArray below meth c H locs 0 0 (MQ below (va_Qi Q (rt_B0 D cA ad) (rt_fr ad s.heap.size)) ([.ref (ad 0), .int p1, .int p2] : List Value).toArray s 1 5 (rt_fr ad s.heap.size)) (F0 m 31 ls [.int xs1, .ref (ad 0)]) := by
    intro xs1 M H locs ls hw hP hS hl
    unfold wjX12_addState_31 at hw
    refine lv_iconst (v := 1) hx hb dX12_addState_31 (by decide) ?_
    refine rt_calli (rt_runV (n := 2) (As := [.int xs1, .int 1]) (rest := []) F hP hN hS (rt_frs hS.1) (rt_c12 _ rt_k0) (rt_l12 rt_k0) rfl (mtX12_start l D cA ad hI _ xs1 1 M _ hw) kw_1171 kw_1168 kw_60 kw_1170 kw_28 ⟨by decide, by decide, by decide +kernel⟩ ⟨rfl, rfl, Nat.le_of_ble_eq_true rfl, Nat.le_of_ble_eq_true rfl⟩ rfl hl.1 rfl (Nat.le_of_ble_eq_true rfl) dX12_addState_32 ⟨Nat.zero_le _, Nat.zero_le _⟩) hS (fun _ h => h) (fun r_32 M_32 H locs hw hP hS _ _ => ?_)
    refine lv_if_ne (tgt := 51) hx hb dX12_addState_35 (by decide) (fun hc35 => ?_) (fun hc35 => ?_)
    · replace hw := hw.1 hc35
      exact J51 M_32 _ _ _ hw hP hS (lv_sub hl [] rfl)
    · replace hw := hw.2 hc35
      refine lv_aload_n hx hb dX12_addState_38 rfl (lv_at hl 0 rfl) ?_
      refine lv_aload_n hx hb dX12_addState_39 rfl (lv_at hl 0 rfl) ?_
      refine lv_iload_n hx hb dX12_addState_40 rfl (lv_at hl 1 rfl) ?_
      refine rt_calli (rt_runV (n := 1) (As := [.int p1]) (rest := [.ref (ad 0)]) F hP hN hS (rt_frs hS.1) (rt_c12 _ rt_k0) (rt_l12 rt_k0) rfl (mtX12_isNoState l D cA ad hI _ p1 M_32 _ hw) kw_1179 kw_1176 kw_60 kw_1178 kw_30 ⟨by decide, by decide, by decide +kernel⟩ ⟨rfl, rfl, Nat.le_of_ble_eq_true rfl, Nat.le_of_ble_eq_true rfl⟩ rfl hl.1 rfl (Nat.le_of_ble_eq_true rfl) dX12_addState_41 ⟨Nat.zero_le _, Nat.zero_le _⟩) hS (fun _ h => h) (fun r_41 M_41 H locs hw hP hS _ _ => ?_)
      refine lv_iconst (v := 2) hx hb dX12_addState_44 (by decide) ?_
      refine rt_calli (rt_runV (n := 2) (As := [.int r_41, .int 2]) (rest := []) F hP hN hS (rt_frs hS.1) (rt_c12 _ rt_k0) (rt_l12 rt_k0) rfl (mtX12_refuse l D cA ad hI _ r_41 2 M_41 _ hw) kw_1175 kw_1172 kw_60 kw_1174 kw_29 ⟨by decide, by decide, by decide +kernel⟩ ⟨rfl, rfl, Nat.le_of_ble_eq_true rfl, Nat.le_of_ble_eq_true rfl⟩ rfl hl.1 rfl (Nat.le_of_ble_eq_true rfl) dX12_addState_45 ⟨Nat.zero_le _, Nat.zero_le _⟩) hS (fun _ h => h) (fun r_45 M_45 H locs hw hP hS _ _ => ?_)
      refine lv_if_eq (tgt := 53) hx hb dX12_addState_48 (by decide) (fun hc48 => ?_) (fun hc48 => ?_)
      · replace hw := hw.1 hc48
        refine lv_aload_n hx hb dX12_addState_53 rfl (lv_at hl 0 rfl) ?_
        refine lv_iload_n hx hb dX12_addState_54 rfl (lv_at hl 2 rfl) ?_
        refine lv_iconst (v := 0) hx hb dX12_addState_55 (by decide) ?_
        refine lv_iconst (v := 4) hx hb dX12_addState_56 (by decide) ?_
        refine rt_calli (rt_runS (n := 3) (As := [.int p2, .int 0, .int 4]) (rest := [.ref (ad 0)]) F hP hN hS (rt_frs hS.1) (mtX12_isIn l D cA ad hI _ p2 0 4 M_45 _ hw) kw_1182 kw_1180 kw_60 kw_1181 ⟨by decide, by decide, by decide +kernel⟩ ⟨rfl, rfl, Nat.le_of_ble_eq_true rfl, Nat.le_of_ble_eq_true rfl⟩ rfl hl.1 rfl (Nat.le_of_ble_eq_true rfl) dX12_addState_57 ⟨Nat.zero_le _, Nat.zero_le _⟩) hS (fun _ h => h) (fun r_57 M_57 H locs hw hP hS _ _ => ?_)
        refine lv_if_eq (tgt := 100) hx hb dX12_addState_60 (by decide) (fun hc60 => ?_) (fun hc60 => ?_)
        · replace hw := hw.1 hc60
          exact J100 M_57 _ _ _ hw hP hS (lv_sub hl [0, 1, 2] rfl)
        · replace hw := hw.2 hc60
          refine lv_aload_n hx hb dX12_addState_63 rfl (lv_at hl 0 rfl) ?_
          refine rt_get F hP (rt_c12 _ rt_k0) (rt_l12 rt_k0) inX12 rfl 1 (by decide) kw_1140 rfl rfl dX12_addState_64 ?_
          refine rt_get F hP (rt_c8 _ rt_k1) (rt_l8 rt_k1) inX8 rfl 0 (by decide) kw_985 rfl rfl dX12_addState_67 ?_
          refine lv_iload_n hx hb dX12_addState_70 rfl (lv_at hl 1 rfl) ?_
          refine rt_call4 (rt_runV (n := 1) (As := [.int p1]) (rest := [.ref (ad 0)]) F hP hN hS (rt_frs hS.1) (rt_c13 _ rt_k2) (rt_l13 rt_k2) rfl (mtJx4a65c_get_915e3 l D cA ad hI _ p1 M_57 _ hw) kw_1186 kw_1183 kw_64 kw_1184 kw_1185 ⟨by decide, by decide, by decide +kernel⟩ ⟨rfl, rfl, (Nat.le_of_ble_eq_true rfl), (Nat.le_of_ble_eq_true rfl)⟩ rfl hl.1 rfl (Nat.le_of_ble_eq_true rfl) dX12_addState_71 ⟨Nat.zero_le _, Nat.zero_le _⟩) hS (fun _ h => h) (fun M_71 H locs hw hP hS _ _ => ?_)
          refine rt_cast4 F hP kw_1046 dX12_addState_74 ?_
          refine rt_calli (rt_runV (n := 0) (As := []) (rest := [.ref (ad 0)]) F hP hN hS (rt_frs hS.1) (rt_c10 _ rt_k4) (rt_l10 rt_k4) rfl (mtX10_isOpen l D cA ad hI _ M_71 _ hw) kw_1200 kw_1197 kw_66 kw_1198 kw_1199 ⟨by decide, by decide, by decide +kernel⟩ ⟨rfl, rfl, Nat.le_of_ble_eq_true rfl, Nat.le_of_ble_eq_true rfl⟩ rfl hl.1 rfl (Nat.le_of_ble_eq_true rfl) dX12_addState_77 ⟨Nat.zero_le _, Nat.zero_le _⟩) hS (fun _ h => h) (fun r_77 M_77 H locs hw hP hS _ _ => ?_)
          refine lv_if_eq (tgt := 100) hx hb dX12_addState_80 (by decide) (fun hc80 => ?_) (fun hc80 => ?_)
          · replace hw := hw.1 hc80
            exact J100 M_77 _ _ _ hw hP hS (lv_sub hl [0, 1, 2] rfl)
          · replace hw := hw.2 hc80
            refine lv_iload_n hx hb dX12_addState_83 rfl (lv_at hl 2 rfl) ?_
            refine lv_iconst (v := 2) hx hb dX12_addState_84 (by decide) ?_
            refine lv_icmp_ne (tgt := 104) hx hb dX12_addState_85 (by decide) (fun hc85 => ?_) (fun hc85 => ?_)
            · replace hw := hw.1 hc85
              exact J104 M_77 _ _ _ hw hP hS (lv_sub hl [0, 1, 2] rfl)
            · replace hw := hw.2 hc85
              refine lv_aload_n hx hb dX12_addState_88 rfl (lv_at hl 0 rfl) ?_
              refine rt_get F hP (rt_c12 _ rt_k0) (rt_l12 rt_k0) inX12 rfl 1 (by decide) kw_1140 rfl rfl dX12_addState_89 ?_
              refine lv_iload_n hx hb dX12_addState_92 rfl (lv_at hl 1 rfl) ?_
              refine rt_calli (rt_runV (n := 1) (As := [.int p1]) (rest := [.ref (ad 0)]) F hP hN hS (rt_frs hS.1) (rt_c8 _ rt_k1) (rt_l8 rt_k1) rfl (mtX8_kind l D cA ad hI _ p1 M_77 _ hw) kw_1204 kw_1201 kw_61 kw_1202 kw_1203 ⟨by decide, by decide, by decide +kernel⟩ ⟨rfl, rfl, Nat.le_of_ble_eq_true rfl, Nat.le_of_ble_eq_true rfl⟩ rfl hl.1 rfl (Nat.le_of_ble_eq_true rfl) dX12_addState_93 ⟨Nat.zero_le _, Nat.zero_le _⟩) hS (fun _ h => h) (fun r_93 M_93 H locs hw hP hS _ _ => ?_)
              refine lv_iconst (v := 1) hx hb dX12_addState_96 (by decide) ?_
              refine lv_icmp_ne (tgt := 104) hx hb dX12_addState_97 (by decide) (fun hc97 => ?_) (fun hc97 => ?_)
              · replace hw := hw.1 hc97
                exact J104 M_93 _ _ _ hw hP hS (lv_sub hl [0, 1, 2] rfl)
              · replace hw := hw.2 hc97
                exact J100 M_93 _ _ _ hw hP hS (lv_sub hl [0, 1, 2] rfl)
      · replace hw := hw.2 hc48
        exact J51 M_45 _ _ _ hw hP hS (lv_sub hl [] rfl)
  have J26 : ∀ (M : pt_M) (H : Heap) (locs : List Loc) (ls : Array Slot), wjX12_addState_26 p1 p2 Q M → va_P D pt_cl (rt_W cA ad M) H → va_S (rt_fr ad s.heap.size) s.heap H locs → lv_has ls 3 [(0, .ref (ad 0)), (1, .int p1), (2, .int p2)] → W p l e (headSpec (Cond.code yX12_addState cX12_addState 3 (some .int) :: lw_all) ({ frames := 4, cells := 1, slots := 5, locals := 85 } : Room)).room s m ([.ref (ad 0), .int p1, .int p2] : List Value).toArray below meth c H locs 0 0 (MQ below (va_Qi Q (rt_B0 D cA ad) (rt_fr ad s.heap.size)) ([.ref (ad 0), .int p1, .int p2] : List Value).toArray s 1 5 (rt_fr ad s.heap.size)) (F0 m 26 ls [.ref (ad 0)]) := by
    intro M H locs ls hw hP hS hl
    unfold wjX12_addState_26 at hw
    refine lv_iconst (v := 1) hx hb dX12_addState_26 (by decide) ?_
    refine lv_goto (tgt := 31) hx hb dX12_addState_27 (by decide) ?_
    exact J31 1 M _ _ _ hw hP hS (lv_sub hl [0, 1, 2] rfl)
  unfold wpX12_addState at hw
  refine lv_aload_n hx hb dX12_addState_0 rfl (lv_at hl 0 rfl) ?_
  refine lv_aload_n hx hb dX12_addState_1 rfl (lv_at hl 0 rfl) ?_
  refine rt_get F hP (rt_c12 _ rt_k0) (rt_l12 rt_k0) inX12 rfl 2 (by decide) kw_1142 rfl rfl dX12_addState_2 ?_
  refine rt_get F hP (rt_c9 _ rt_k6) (rt_l9 rt_k6) inX9 rfl 0 (by decide) kw_1004 rfl rfl dX12_addState_5 ?_
  refine lv_if_ne (tgt := 26) hx hb dX12_addState_8 (by decide) (fun hc8 => ?_) (fun hc8 => ?_)
  · replace hw := hw.1 hc8
    exact J26 M _ _ _ hw hP hS (lv_sub hl [0, 1, 2] rfl)
  · replace hw := hw.2 hc8
    refine lv_aload_n hx hb dX12_addState_11 rfl (lv_at hl 0 rfl) ?_
    refine rt_get F hP (rt_c12 _ rt_k0) (rt_l12 rt_k0) inX12 rfl 1 (by decide) kw_1140 rfl rfl dX12_addState_12 ?_
    refine rt_get F hP (rt_c8 _ rt_k1) (rt_l8 rt_k1) inX8 rfl 0 (by decide) kw_985 rfl rfl dX12_addState_15 ?_
    refine rt_calli (rt_runV (n := 0) (As := []) (rest := [.ref (ad 0)]) F hP hN hS (rt_frs hS.1) (rt_c13 _ rt_k2) (rt_l13 rt_k2) rfl (mtJx4a65c_size_8abf5 l D cA ad hI _ 2 rt_k2 M _ hw) kw_1167 kw_1164 kw_64 kw_1165 kw_1166 ⟨by decide, by decide, by decide +kernel⟩ ⟨rfl, rfl, Nat.le_of_ble_eq_true rfl, Nat.le_of_ble_eq_true rfl⟩ rfl hl.1 rfl (Nat.le_of_ble_eq_true rfl) dX12_addState_18 ⟨Nat.zero_le _, Nat.zero_le _⟩) hS (fun _ h => h) (fun r_18 M_18 H locs hw hP hS _ _ => ?_)
    refine lv_bipush (v := 20) hx hb dX12_addState_21 (by decide) ?_
    refine lv_icmp_ne (tgt := 30) hx hb dX12_addState_23 (by decide) (fun hc23 => ?_) (fun hc23 => ?_)
    · replace hw := hw.1 hc23
      refine lv_iconst (v := 0) hx hb dX12_addState_30 (by decide) ?_
      exact J31 0 M_18 _ _ _ hw hP hS (lv_sub hl [0, 1, 2] rfl)
    · replace hw := hw.2 hc23
      exact J26 M_18 _ _ _ hw hP hS (lv_sub hl [0, 1, 2] rfl)
-- ===== X12_setDoing
def wjX12_setDoing_111 (p1 : Int32) (p2 : Int32) (p3 : Int32) (p4 : Int32) (p5 : Int32) (Q : Int32 → pt_M → Prop)  (xs0 : Int32) (M : pt_M) : Prop :=
  Q xs0 M
def wjX12_setDoing_72 (p1 : Int32) (p2 : Int32) (p3 : Int32) (p4 : Int32) (p5 : Int32) (Q : Int32 → pt_M → Prop)   (M : pt_M) : Prop :=
  Q 0 M
def wjX12_setDoing_65 (p1 : Int32) (p2 : Int32) (p3 : Int32) (p4 : Int32) (p5 : Int32) (Q : Int32 → pt_M → Prop)  (xs1 : Int32) (M : pt_M) : Prop :=
  wpX12_refuse xs1 3 M (fun (r_66 : Int32) (M_66 : pt_M) => (r_66 = 0 → wpJx4a65c_get_915e3 p1 M_66 (fun (M_82 : pt_M) => (p2 = 0 → wjX12_setDoing_111 p1 p2 p3 p4 p5 Q (0 : Int32) M_82) ∧ (¬ p2 = 0 → wjX12_setDoing_111 p1 p2 p3 p4 p5 Q (0 : Int32) M_82))) ∧ (¬ r_66 = 0 → wjX12_setDoing_72 p1 p2 p3 p4 p5 Q M_66))
def wjX12_setDoing_60 (p1 : Int32) (p2 : Int32) (p3 : Int32) (p4 : Int32) (p5 : Int32) (Q : Int32 → pt_M → Prop)   (M : pt_M) : Prop :=
  wjX12_setDoing_65 p1 p2 p3 p4 p5 Q 1 M
def wpX12_setDoing (p1 : Int32) (p2 : Int32) (p3 : Int32) (p4 : Int32) (p5 : Int32) (M : pt_M) (Q : Int32 → pt_M → Prop) : Prop :=
  wpX12_start (M 6 0) 1 M (fun (r_9 : Int32) (M_9 : pt_M) => (¬ r_9 = 0 → wjX12_setDoing_72 p1 p2 p3 p4 p5 Q M_9) ∧ (r_9 = 0 → wpX12_isNoState p1 M_9 (fun (r_18 : Int32) (M_18 : pt_M) => wpX12_refuse r_18 2 M_18 (fun (r_22 : Int32) (M_22 : pt_M) => (¬ r_22 = 0 → wjX12_setDoing_72 p1 p2 p3 p4 p5 Q M_22) ∧ (r_22 = 0 → wpJx4a65c_get_915e3 p1 M_22 (fun (M_37 : pt_M) => wpX10_isMark M_37 (fun (r_43 : Int32) (M_43 : pt_M) => (¬ r_43 = 0 → wjX12_setDoing_60 p1 p2 p3 p4 p5 Q M_43) ∧ (r_43 = 0 → wpX12_isNoAction p3 p4 p5 M_43 (fun (r_54 : Int32) (M_54 : pt_M) => (r_54 = 0 → wjX12_setDoing_65 p1 p2 p3 p4 p5 Q 0 M_54) ∧ (¬ r_54 = 0 → wjX12_setDoing_60 p1 p2 p3 p4 p5 Q M_54))))))))))
set_option maxHeartbeats 4000000 in
set_option maxRecDepth 100000 in
theorem mtX12_setDoing (l : Launch) (D : va_G) (cA : Nat → ClassId) (ad : Nat → Nat) (hI : rt_I ad) (sz : Nat) (p1 : Int32) (p2 : Int32) (p3 : Int32) (p4 : Int32) (p5 : Int32) (M : pt_M) (Q : Int32 → pt_M → Prop) (hw : wpX12_setDoing p1 p2 p3 p4 p5 M Q) : Met l yX12_setDoing (Cond.code yX12_setDoing cX12_setDoing 9 (some .int) :: lw_all) ({ frames := 3, cells := 1, slots := 3, locals := 64 } : Room) (va_Pc [.ref (ad 0), .int p1, .int p2, .int p3, .int p4, .int p5] (rt_P D cA ad sz M)) (va_Qi Q (rt_B0 D cA ad) (rt_fr ad sz)) 1 3 (rt_fr ad sz) := by
  refine Met.ofW (cc := cX12_setDoing) (maxL := 9) (ret := (some .int)) (by decide) rfl ?_
  intro p e s m args below meth c s₁ B hml hv
  obtain ⟨rfl, hsz, hP, hK, hN⟩ := hv
  have hx := B.exec
  have hb := B.bytes
  have hr := B.returns
  have hts0 := atoms_spec (ws := (Cond.code yX12_setDoing cX12_setDoing 9 (some .int) :: lw_all)) B.pre
  have hown : s.vm.findClass RX12 = some m.cls := findClass_of_methodNamed B.named
  have hlocks := B.notSynchronized
  subst hsz
  have F : pt_F p m c cX12_setDoing 9 s _ RX12 D cA := ⟨⟨hx, hb, hml, hown, fun w h => hts0 w (List.mem_cons_of_mem _ h)⟩, hK⟩
  have hD : ∀ M, va_D (rt_fr ad s.heap.size) (rt_W cA ad M) := rt_D hI (fun k h => Or.inl ⟨k, h, rfl⟩)
  have hS : va_S (rt_fr ad s.heap.size) s.heap s.heap [] := va_S.rf
  have hl := lv_entry ([.ref (ad 0), .int p1, .int p2, .int p3, .int p4, .int p5]) (n := 9) (Nat.le_of_ble_eq_true rfl)
  rw [lg_entry_eq]
  generalize (lg_sl ([.ref (ad 0), .int p1, .int p2, .int p3, .int p4, .int p5]) ++ List.replicate (9 - (lg_sl ([.ref (ad 0), .int p1, .int p2, .int p3, .int p4, .int p5])).length) Slot.unset).toArray = ls at hl ⊢
  have hl : lv_has ls 9 [(0, .ref (ad 0)), (1, .int p1), (2, .int p2), (3, .int p3), (4, .int p4), (5, .int p5)] := hl
  have J111 : ∀ (xs0 : Int32) (M : pt_M) (H : Heap) (locs : List Loc) (ls : Array Slot), wjX12_setDoing_111 p1 p2 p3 p4 p5 Q xs0 M → va_P D pt_cl (rt_W cA ad M) H → va_S (rt_fr ad s.heap.size) s.heap H locs → lv_has ls 9 [(2, .int p2), (3, .int p3), (4, .int p4), (5, .int p5), (6, .ref (ad 4))] → W p l e (headSpec (Cond.code yX12_setDoing cX12_setDoing 9 (some .int) :: lw_all) ({ frames := 3, cells := 1, slots := 3, locals := 64 } : Room)).room s m ([.ref (ad 0), .int p1, .int p2, .int p3, .int p4, .int p5] : List Value).toArray below meth c H locs 0 0 (MQ below (va_Qi Q (rt_B0 D cA ad) (rt_fr ad s.heap.size)) ([.ref (ad 0), .int p1, .int p2, .int p3, .int p4, .int p5] : List Value).toArray s 1 3 (rt_fr ad s.heap.size)) (F0 m 111 ls [.int xs0]) := by
    intro xs0 M H locs ls hw hP hS hl
    unfold wjX12_setDoing_111 at hw
    refine lv_istore (lv' := [(7, .int xs0), (2, .int p2), (3, .int p3), (4, .int p4), (5, .int p5), (6, .ref (ad 4))]) hx hb dX12_setDoing_111 hl (by decide) rfl (fun ls hl => ?_)
    refine lv_iconst (v := 3) hx hb dX12_setDoing_113 (by decide) ?_
    replace hP : va_P D pt_cl (([] : va_W) ++ [((ad 0), .inr (12, [.int (M 0 0), .ref (ad 1), .ref (ad 6), .ref (ad 12), .int (M 0 4)])), ((ad 1), .inr (8, [.ref (ad 2), .ref (ad 5)])), ((ad 2), .inr (13, [.int (M 2 0), .ref (ad 3), .int (M 2 2)])), ((ad 3), .inl (cA 4, 10, .inr (.inr (.inr (.inr (fun i => if i = 0 then some (ad 4) else none)))))), ((ad 4), .inr (10, [.int (M 4 0), .int (M 4 1), .int (M 4 2), .ref (ad 13), .ref (ad 13)])), ((ad 5), .inr (13, [.int (M 5 0), .ref (ad 14), .int (M 5 2)])), ((ad 6), .inr (9, [.int (M 6 0), .int (M 6 1), .ref (ad 7), .ref (ad 8), .ref (ad 9), .ref (ad 10), .ref (ad 11), .int (M 6 7), .int (M 6 8), .int (M 6 9), .ref (ad 0)])), ((ad 7), .inl (cA 0, 20, .inl (M 7))), ((ad 8), .inl (cA 0, 20, .inl (M 8))), ((ad 9), .inl (cA 0, 4, .inl (M 9))), ((ad 10), .inl (cA 0, 30, .inl (M 10))), ((ad 11), .inr (13, [.int (M 11 0), .ref (ad 14), .int (M 11 2)])), ((ad 12), .inl (cA 0, 0, .inl (M 12)))]) H := hP
    replace hD : va_D (rt_fr ad s.heap.size) (([] : va_W) ++ [((ad 0), .inr (12, [.int (M 0 0), .ref (ad 1), .ref (ad 6), .ref (ad 12), .int (M 0 4)])), ((ad 1), .inr (8, [.ref (ad 2), .ref (ad 5)])), ((ad 2), .inr (13, [.int (M 2 0), .ref (ad 3), .int (M 2 2)])), ((ad 3), .inl (cA 4, 10, .inr (.inr (.inr (.inr (fun i => if i = 0 then some (ad 4) else none)))))), ((ad 4), .inr (10, [.int (M 4 0), .int (M 4 1), .int (M 4 2), .ref (ad 13), .ref (ad 13)])), ((ad 5), .inr (13, [.int (M 5 0), .ref (ad 14), .int (M 5 2)])), ((ad 6), .inr (9, [.int (M 6 0), .int (M 6 1), .ref (ad 7), .ref (ad 8), .ref (ad 9), .ref (ad 10), .ref (ad 11), .int (M 6 7), .int (M 6 8), .int (M 6 9), .ref (ad 0)])), ((ad 7), .inl (cA 0, 20, .inl (M 7))), ((ad 8), .inl (cA 0, 20, .inl (M 8))), ((ad 9), .inl (cA 0, 4, .inl (M 9))), ((ad 10), .inl (cA 0, 30, .inl (M 10))), ((ad 11), .inr (13, [.int (M 11 0), .ref (ad 14), .int (M 11 2)])), ((ad 12), .inl (cA 0, 0, .inl (M 12)))]) := hD M
    have hA : ∀ q, s.heap.size ≤ q → rt_fr ad s.heap.size q := fun q h => Or.inr h
    have s_cb : 1 ≤ (headSpec (Cond.code yX12_setDoing cX12_setDoing 9 (some .int) :: lw_all) ({ frames := 3, cells := 1, slots := 3, locals := 64 } : Room)).room.cells := (Nat.le_of_ble_eq_true rfl)
    have s_sb : 3 ≤ (headSpec (Cond.code yX12_setDoing cX12_setDoing 9 (some .int) :: lw_all) ({ frames := 3, cells := 1, slots := 3, locals := 64 } : Room)).room.slots := (Nat.le_of_ble_eq_true rfl)
    refine pt_xnew (N := 3) F hP hD hS hA kw_128 (by decide) (by decide) (by decide) (Nat.le_trans (Nat.le_of_ble_eq_true rfl) s_cb) (Nat.le_trans (Nat.le_of_ble_eq_true rfl) s_sb) dX12_setDoing_114 (fun q114 H hP hD hS => ?_)
    replace hP : va_P D pt_cl (([] : va_W) ++ [((ad 0), .inr (12, [.int (M 0 0), .ref (ad 1), .ref (ad 6), .ref (ad 12), .int (M 0 4)])), ((ad 1), .inr (8, [.ref (ad 2), .ref (ad 5)])), ((ad 2), .inr (13, [.int (M 2 0), .ref (ad 3), .int (M 2 2)])), ((ad 3), .inl (cA 4, 10, .inr (.inr (.inr (.inr (fun i => if i = 0 then some (ad 4) else none)))))), ((ad 4), .inr (10, [.int (M 4 0), .int (M 4 1), .int (M 4 2), .ref (ad 13), .ref (ad 13)])), ((ad 5), .inr (13, [.int (M 5 0), .ref (ad 14), .int (M 5 2)])), ((ad 6), .inr (9, [.int (M 6 0), .int (M 6 1), .ref (ad 7), .ref (ad 8), .ref (ad 9), .ref (ad 10), .ref (ad 11), .int (M 6 7), .int (M 6 8), .int (M 6 9), .ref (ad 0)])), ((ad 7), .inl (cA 0, 20, .inl (M 7))), ((ad 8), .inl (cA 0, 20, .inl (M 8))), ((ad 9), .inl (cA 0, 4, .inl (M 9))), ((ad 10), .inl (cA 0, 30, .inl (M 10))), ((ad 11), .inr (13, [.int (M 11 0), .ref (ad 14), .int (M 11 2)])), ((ad 12), .inl (cA 0, 0, .inl (M 12))), (q114, .inl (cA 0, 3, .inl (fun _ => 0)))]) H := hP
    replace hD : va_D (rt_fr ad s.heap.size) (([] : va_W) ++ [((ad 0), .inr (12, [.int (M 0 0), .ref (ad 1), .ref (ad 6), .ref (ad 12), .int (M 0 4)])), ((ad 1), .inr (8, [.ref (ad 2), .ref (ad 5)])), ((ad 2), .inr (13, [.int (M 2 0), .ref (ad 3), .int (M 2 2)])), ((ad 3), .inl (cA 4, 10, .inr (.inr (.inr (.inr (fun i => if i = 0 then some (ad 4) else none)))))), ((ad 4), .inr (10, [.int (M 4 0), .int (M 4 1), .int (M 4 2), .ref (ad 13), .ref (ad 13)])), ((ad 5), .inr (13, [.int (M 5 0), .ref (ad 14), .int (M 5 2)])), ((ad 6), .inr (9, [.int (M 6 0), .int (M 6 1), .ref (ad 7), .ref (ad 8), .ref (ad 9), .ref (ad 10), .ref (ad 11), .int (M 6 7), .int (M 6 8), .int (M 6 9), .ref (ad 0)])), ((ad 7), .inl (cA 0, 20, .inl (M 7))), ((ad 8), .inl (cA 0, 20, .inl (M 8))), ((ad 9), .inl (cA 0, 4, .inl (M 9))), ((ad 10), .inl (cA 0, 30, .inl (M 10))), ((ad 11), .inr (13, [.int (M 11 0), .ref (ad 14), .int (M 11 2)])), ((ad 12), .inl (cA 0, 0, .inl (M 12))), (q114, .inl (cA 0, 3, .inl (fun _ => 0)))]) := hD
    refine W.widen (k := 1) (n := 3) (Nat.le_of_ble_eq_true rfl) (Nat.le_of_ble_eq_true rfl) ?_
    refine lv_dup hx hb dX12_setDoing_116 rfl ?_
    refine lv_iconst (v := 0) hx hb dX12_setDoing_117 (by decide) ?_
    refine lv_iload_n hx hb dX12_setDoing_118 rfl (lv_at hl 2 rfl) ?_
    refine pt_xist (Y' := fun f1 => [((ad 0), .inr (12, [.int (M 0 0), .ref (ad 1), .ref (ad 6), .ref (ad 12), .int (M 0 4)])), ((ad 1), .inr (8, [.ref (ad 2), .ref (ad 5)])), ((ad 2), .inr (13, [.int (M 2 0), .ref (ad 3), .int (M 2 2)])), ((ad 3), .inl (cA 4, 10, .inr (.inr (.inr (.inr (fun i => if i = 0 then some (ad 4) else none)))))), ((ad 4), .inr (10, [.int (M 4 0), .int (M 4 1), .int (M 4 2), .ref (ad 13), .ref (ad 13)])), ((ad 5), .inr (13, [.int (M 5 0), .ref (ad 14), .int (M 5 2)])), ((ad 6), .inr (9, [.int (M 6 0), .int (M 6 1), .ref (ad 7), .ref (ad 8), .ref (ad 9), .ref (ad 10), .ref (ad 11), .int (M 6 7), .int (M 6 8), .int (M 6 9), .ref (ad 0)])), ((ad 7), .inl (cA 0, 20, .inl (M 7))), ((ad 8), .inl (cA 0, 20, .inl (M 8))), ((ad 9), .inl (cA 0, 4, .inl (M 9))), ((ad 10), .inl (cA 0, 30, .inl (M 10))), ((ad 11), .inr (13, [.int (M 11 0), .ref (ad 14), .int (M 11 2)])), ((ad 12), .inl (cA 0, 0, .inl (M 12))), (q114, .inl (cA 0, 3, .inl f1))]) F hP hD hS 13 rfl (show vp_in 0 3 from by unfold vp_in; decide) dX12_setDoing_119 (fun _ => rfl) (fun f119 H locs ef119 hP hD hS => ?_)
    refine lv_dup hx hb dX12_setDoing_120 rfl ?_
    refine lv_iconst (v := 1) hx hb dX12_setDoing_121 (by decide) ?_
    refine lv_iload hx hb dX12_setDoing_122 (lv_at hl 3 rfl) ?_
    refine pt_xist (Y' := fun f1 => [((ad 0), .inr (12, [.int (M 0 0), .ref (ad 1), .ref (ad 6), .ref (ad 12), .int (M 0 4)])), ((ad 1), .inr (8, [.ref (ad 2), .ref (ad 5)])), ((ad 2), .inr (13, [.int (M 2 0), .ref (ad 3), .int (M 2 2)])), ((ad 3), .inl (cA 4, 10, .inr (.inr (.inr (.inr (fun i => if i = 0 then some (ad 4) else none)))))), ((ad 4), .inr (10, [.int (M 4 0), .int (M 4 1), .int (M 4 2), .ref (ad 13), .ref (ad 13)])), ((ad 5), .inr (13, [.int (M 5 0), .ref (ad 14), .int (M 5 2)])), ((ad 6), .inr (9, [.int (M 6 0), .int (M 6 1), .ref (ad 7), .ref (ad 8), .ref (ad 9), .ref (ad 10), .ref (ad 11), .int (M 6 7), .int (M 6 8), .int (M 6 9), .ref (ad 0)])), ((ad 7), .inl (cA 0, 20, .inl (M 7))), ((ad 8), .inl (cA 0, 20, .inl (M 8))), ((ad 9), .inl (cA 0, 4, .inl (M 9))), ((ad 10), .inl (cA 0, 30, .inl (M 10))), ((ad 11), .inr (13, [.int (M 11 0), .ref (ad 14), .int (M 11 2)])), ((ad 12), .inl (cA 0, 0, .inl (M 12))), (q114, .inl (cA 0, 3, .inl f1))]) F hP hD hS 13 rfl (show vp_in 1 3 from by unfold vp_in; decide) dX12_setDoing_124 (fun _ => rfl) (fun f124 H locs ef124 hP hD hS => ?_)
    refine lv_dup hx hb dX12_setDoing_125 rfl ?_
    refine lv_iconst (v := 2) hx hb dX12_setDoing_126 (by decide) ?_
    refine lv_iload hx hb dX12_setDoing_127 (lv_at hl 4 rfl) ?_
    refine pt_xist (Y' := fun f1 => [((ad 0), .inr (12, [.int (M 0 0), .ref (ad 1), .ref (ad 6), .ref (ad 12), .int (M 0 4)])), ((ad 1), .inr (8, [.ref (ad 2), .ref (ad 5)])), ((ad 2), .inr (13, [.int (M 2 0), .ref (ad 3), .int (M 2 2)])), ((ad 3), .inl (cA 4, 10, .inr (.inr (.inr (.inr (fun i => if i = 0 then some (ad 4) else none)))))), ((ad 4), .inr (10, [.int (M 4 0), .int (M 4 1), .int (M 4 2), .ref (ad 13), .ref (ad 13)])), ((ad 5), .inr (13, [.int (M 5 0), .ref (ad 14), .int (M 5 2)])), ((ad 6), .inr (9, [.int (M 6 0), .int (M 6 1), .ref (ad 7), .ref (ad 8), .ref (ad 9), .ref (ad 10), .ref (ad 11), .int (M 6 7), .int (M 6 8), .int (M 6 9), .ref (ad 0)])), ((ad 7), .inl (cA 0, 20, .inl (M 7))), ((ad 8), .inl (cA 0, 20, .inl (M 8))), ((ad 9), .inl (cA 0, 4, .inl (M 9))), ((ad 10), .inl (cA 0, 30, .inl (M 10))), ((ad 11), .inr (13, [.int (M 11 0), .ref (ad 14), .int (M 11 2)])), ((ad 12), .inl (cA 0, 0, .inl (M 12))), (q114, .inl (cA 0, 3, .inl f1))]) F hP hD hS 13 rfl (show vp_in 2 3 from by unfold vp_in; decide) dX12_setDoing_129 (fun _ => rfl) (fun f129 H locs ef129 hP hD hS => ?_)
    refine lv_astore (lv' := [(8, .ref q114), (7, .int xs0), (2, .int p2), (3, .int p3), (4, .int p4), (5, .int p5), (6, .ref (ad 4))]) hx hb dX12_setDoing_130 hl (by decide) rfl (fun ls hl => ?_)
    refine lv_iload_n hx hb dX12_setDoing_132 rfl (lv_at hl 2 rfl) ?_
    refine lv_if_eq (tgt := 146) hx hb dX12_setDoing_133 (by decide) (fun hc => ?_) (fun hc => ?_)
    · refine lv_aload hx hb dX12_setDoing_146 (lv_at hl 6 rfl) ?_
      refine lv_aload hx hb dX12_setDoing_148 (lv_at hl 0 rfl) ?_
      refine sx_put (Y' := [((ad 0), .inr (12, [.int (M 0 0), .ref (ad 1), .ref (ad 6), .ref (ad 12), .int (M 0 4)])), ((ad 1), .inr (8, [.ref (ad 2), .ref (ad 5)])), ((ad 2), .inr (13, [.int (M 2 0), .ref (ad 3), .int (M 2 2)])), ((ad 3), .inl (cA 4, 10, .inr (.inr (.inr (.inr (fun i => if i = 0 then some (ad 4) else none)))))), ((ad 4), .inr (10, [.int (M 4 0), .int (M 4 1), .int (M 4 2), .ref q114, .ref (ad 13)])), ((ad 5), .inr (13, [.int (M 5 0), .ref (ad 14), .int (M 5 2)])), ((ad 6), .inr (9, [.int (M 6 0), .int (M 6 1), .ref (ad 7), .ref (ad 8), .ref (ad 9), .ref (ad 10), .ref (ad 11), .int (M 6 7), .int (M 6 8), .int (M 6 9), .ref (ad 0)])), ((ad 7), .inl (cA 0, 20, .inl (M 7))), ((ad 8), .inl (cA 0, 20, .inl (M 8))), ((ad 9), .inl (cA 0, 4, .inl (M 9))), ((ad 10), .inl (cA 0, 30, .inl (M 10))), ((ad 11), .inr (13, [.int (M 11 0), .ref (ad 14), .int (M 11 2)])), ((ad 12), .inl (cA 0, 0, .inl (M 12))), (q114, .inl (cA 0, 3, .inl f129))]) F hP hD hS 4 rfl inX10 tyX10 tyX10_ok nmX10 rfl 3 (by decide) kw_1065 rfl rfl rfl rfl (Nat.le_of_ble_eq_true rfl) rfl dX12_setDoing_150 (fun H locs hP hD hS => ?_)
      refine lv_iload hx hb dX12_setDoing_153 (lv_at hl 1 rfl) ?_
      exact W.iret (v := xs0) hx hb hr (fun t ht hW => ⟨⟨_, M, rfl, hw, by unfold rt_B0; rw [ht]; exact hP.sub [0] rfl⟩, hS.F ht⟩) hS.2.2 dX12_setDoing_155
    · refine lv_aload hx hb dX12_setDoing_136 (lv_at hl 6 rfl) ?_
      refine lv_aload hx hb dX12_setDoing_138 (lv_at hl 0 rfl) ?_
      refine sx_put (Y' := [((ad 0), .inr (12, [.int (M 0 0), .ref (ad 1), .ref (ad 6), .ref (ad 12), .int (M 0 4)])), ((ad 1), .inr (8, [.ref (ad 2), .ref (ad 5)])), ((ad 2), .inr (13, [.int (M 2 0), .ref (ad 3), .int (M 2 2)])), ((ad 3), .inl (cA 4, 10, .inr (.inr (.inr (.inr (fun i => if i = 0 then some (ad 4) else none)))))), ((ad 4), .inr (10, [.int (M 4 0), .int (M 4 1), .int (M 4 2), .ref (ad 13), .ref q114])), ((ad 5), .inr (13, [.int (M 5 0), .ref (ad 14), .int (M 5 2)])), ((ad 6), .inr (9, [.int (M 6 0), .int (M 6 1), .ref (ad 7), .ref (ad 8), .ref (ad 9), .ref (ad 10), .ref (ad 11), .int (M 6 7), .int (M 6 8), .int (M 6 9), .ref (ad 0)])), ((ad 7), .inl (cA 0, 20, .inl (M 7))), ((ad 8), .inl (cA 0, 20, .inl (M 8))), ((ad 9), .inl (cA 0, 4, .inl (M 9))), ((ad 10), .inl (cA 0, 30, .inl (M 10))), ((ad 11), .inr (13, [.int (M 11 0), .ref (ad 14), .int (M 11 2)])), ((ad 12), .inl (cA 0, 0, .inl (M 12))), (q114, .inl (cA 0, 3, .inl f129))]) F hP hD hS 4 rfl inX10 tyX10 tyX10_ok nmX10 rfl 4 (by decide) kw_1067 rfl rfl rfl rfl (Nat.le_of_ble_eq_true rfl) rfl dX12_setDoing_140 (fun H locs hP hD hS => ?_)
      refine lv_goto (tgt := 153) hx hb dX12_setDoing_143 (by decide) ?_
      refine lv_iload hx hb dX12_setDoing_153 (lv_at hl 1 rfl) ?_
      exact W.iret (v := xs0) hx hb hr (fun t ht hW => ⟨⟨_, M, rfl, hw, by unfold rt_B0; rw [ht]; exact hP.sub [0] rfl⟩, hS.F ht⟩) hS.2.2 dX12_setDoing_155
  have J72 : ∀ (M : pt_M) (H : Heap) (locs : List Loc) (ls : Array Slot), wjX12_setDoing_72 p1 p2 p3 p4 p5 Q M → va_P D pt_cl (rt_W cA ad M) H → va_S (rt_fr ad s.heap.size) s.heap H locs → lv_has ls 9 [] → W p l e (headSpec (Cond.code yX12_setDoing cX12_setDoing 9 (some .int) :: lw_all) ({ frames := 3, cells := 1, slots := 3, locals := 64 } : Room)).room s m ([.ref (ad 0), .int p1, .int p2, .int p3, .int p4, .int p5] : List Value).toArray below meth c H locs 0 0 (MQ below (va_Qi Q (rt_B0 D cA ad) (rt_fr ad s.heap.size)) ([.ref (ad 0), .int p1, .int p2, .int p3, .int p4, .int p5] : List Value).toArray s 1 3 (rt_fr ad s.heap.size)) (F0 m 72 ls []) := by
    intro M H locs ls hw hP hS hl
    unfold wjX12_setDoing_72 at hw
    refine lv_iconst (v := 0) hx hb dX12_setDoing_72 (by decide) ?_
    refine W.widen (k := 1) (n := 3) (Nat.le_of_ble_eq_true rfl) (Nat.le_of_ble_eq_true rfl) ?_
    exact W.iret (v := 0) hx hb hr (fun t ht hW => ⟨⟨0, M, rfl, hw, by unfold rt_B0; rw [ht]; exact hP.sub [0] rfl⟩, hS.F ht⟩) hS.2.2 dX12_setDoing_73
  have J65 : ∀ (xs1 : Int32) (M : pt_M) (H : Heap) (locs : List Loc) (ls : Array Slot), wjX12_setDoing_65 p1 p2 p3 p4 p5 Q xs1 M → va_P D pt_cl (rt_W cA ad M) H → va_S (rt_fr ad s.heap.size) s.heap H locs → lv_has ls 9 [(0, .ref (ad 0)), (1, .int p1), (2, .int p2), (3, .int p3), (4, .int p4), (5, .int p5)] → W p l e (headSpec (Cond.code yX12_setDoing cX12_setDoing 9 (some .int) :: lw_all) ({ frames := 3, cells := 1, slots := 3, locals := 64 } : Room)).room s m ([.ref (ad 0), .int p1, .int p2, .int p3, .int p4, .int p5] : List Value).toArray below meth c H locs 0 0 (MQ below (va_Qi Q (rt_B0 D cA ad) (rt_fr ad s.heap.size)) ([.ref (ad 0), .int p1, .int p2, .int p3, .int p4, .int p5] : List Value).toArray s 1 3 (rt_fr ad s.heap.size)) (F0 m 65 ls [.int xs1, .ref (ad 0)]) := by
    intro xs1 M H locs ls hw hP hS hl
    unfold wjX12_setDoing_65 at hw
    refine lv_iconst (v := 3) hx hb dX12_setDoing_65 (by decide) ?_
    refine rt_calli (rt_runV (n := 2) (As := [.int xs1, .int 3]) (rest := []) F hP hN hS (rt_frs hS.1) (rt_c12 _ rt_k0) (rt_l12 rt_k0) rfl (mtX12_refuse l D cA ad hI _ xs1 3 M _ hw) kw_1175 kw_1172 kw_60 kw_1174 kw_29 ⟨by decide, by decide, by decide +kernel⟩ ⟨rfl, rfl, Nat.le_of_ble_eq_true rfl, Nat.le_of_ble_eq_true rfl⟩ rfl hl.1 rfl (Nat.le_of_ble_eq_true rfl) dX12_setDoing_66 ⟨Nat.zero_le _, Nat.zero_le _⟩) hS (fun _ h => h) (fun r_66 M_66 H locs hw hP hS _ _ => ?_)
    refine lv_if_eq (tgt := 74) hx hb dX12_setDoing_69 (by decide) (fun hc69 => ?_) (fun hc69 => ?_)
    · replace hw := hw.1 hc69
      refine lv_aload_n hx hb dX12_setDoing_74 rfl (lv_at hl 0 rfl) ?_
      refine rt_get F hP (rt_c12 _ rt_k0) (rt_l12 rt_k0) inX12 rfl 1 (by decide) kw_1140 rfl rfl dX12_setDoing_75 ?_
      refine rt_get F hP (rt_c8 _ rt_k1) (rt_l8 rt_k1) inX8 rfl 0 (by decide) kw_985 rfl rfl dX12_setDoing_78 ?_
      refine lv_iload_n hx hb dX12_setDoing_81 rfl (lv_at hl 1 rfl) ?_
      refine rt_call4 (rt_runV (n := 1) (As := [.int p1]) (rest := []) F hP hN hS (rt_frs hS.1) (rt_c13 _ rt_k2) (rt_l13 rt_k2) rfl (mtJx4a65c_get_915e3 l D cA ad hI _ p1 M_66 _ hw) kw_1186 kw_1183 kw_64 kw_1184 kw_1185 ⟨by decide, by decide, by decide +kernel⟩ ⟨rfl, rfl, (Nat.le_of_ble_eq_true rfl), (Nat.le_of_ble_eq_true rfl)⟩ rfl hl.1 rfl (Nat.le_of_ble_eq_true rfl) dX12_setDoing_82 ⟨Nat.zero_le _, Nat.zero_le _⟩) hS (fun _ h => h) (fun M_82 H locs hw hP hS _ _ => ?_)
      refine rt_cast4 F hP kw_1046 dX12_setDoing_85 ?_
      refine lv_astore (lv' := [(6, .ref (ad 4)), (0, .ref (ad 0)), (1, .int p1), (2, .int p2), (3, .int p3), (4, .int p4), (5, .int p5)]) hx hb dX12_setDoing_88 hl (by decide) rfl (fun ls hl => ?_)
      refine lv_iload_n hx hb dX12_setDoing_90 rfl (lv_at hl 3 rfl) ?_
      refine lv_if_eq (tgt := 104) hx hb dX12_setDoing_91 (by decide) (fun hc91 => ?_) (fun hc91 => ?_)
      · replace hw := hw.1 hc91
        refine lv_aload hx hb dX12_setDoing_104 (lv_at hl 0 rfl) ?_
        refine rt_get F hP (rt_c10 _ rt_k4) (rt_l10 rt_k4) inX10 rfl 3 (by decide) kw_1065 rfl rfl dX12_setDoing_106 ?_
        refine lv_iconst (v := 0) hx hb dX12_setDoing_109 (by decide) ?_
        refine rt_iald13 F hN hS (show vp_in 0 3 from by unfold vp_in; decide) dX12_setDoing_110 ?_
        exact J111 (0 : Int32) M_82 _ _ _ hw hP hS (lv_sub hl [3, 4, 5, 6, 0] rfl)
      · replace hw := hw.2 hc91
        refine lv_aload hx hb dX12_setDoing_94 (lv_at hl 0 rfl) ?_
        refine rt_get F hP (rt_c10 _ rt_k4) (rt_l10 rt_k4) inX10 rfl 4 (by decide) kw_1067 rfl rfl dX12_setDoing_96 ?_
        refine lv_iconst (v := 0) hx hb dX12_setDoing_99 (by decide) ?_
        refine rt_iald13 F hN hS (show vp_in 0 3 from by unfold vp_in; decide) dX12_setDoing_100 ?_
        refine lv_goto (tgt := 111) hx hb dX12_setDoing_101 (by decide) ?_
        exact J111 (0 : Int32) M_82 _ _ _ hw hP hS (lv_sub hl [3, 4, 5, 6, 0] rfl)
    · replace hw := hw.2 hc69
      exact J72 M_66 _ _ _ hw hP hS (lv_sub hl [] rfl)
  have J60 : ∀ (M : pt_M) (H : Heap) (locs : List Loc) (ls : Array Slot), wjX12_setDoing_60 p1 p2 p3 p4 p5 Q M → va_P D pt_cl (rt_W cA ad M) H → va_S (rt_fr ad s.heap.size) s.heap H locs → lv_has ls 9 [(0, .ref (ad 0)), (1, .int p1), (2, .int p2), (3, .int p3), (4, .int p4), (5, .int p5)] → W p l e (headSpec (Cond.code yX12_setDoing cX12_setDoing 9 (some .int) :: lw_all) ({ frames := 3, cells := 1, slots := 3, locals := 64 } : Room)).room s m ([.ref (ad 0), .int p1, .int p2, .int p3, .int p4, .int p5] : List Value).toArray below meth c H locs 0 0 (MQ below (va_Qi Q (rt_B0 D cA ad) (rt_fr ad s.heap.size)) ([.ref (ad 0), .int p1, .int p2, .int p3, .int p4, .int p5] : List Value).toArray s 1 3 (rt_fr ad s.heap.size)) (F0 m 60 ls [.ref (ad 0)]) := by
    intro M H locs ls hw hP hS hl
    unfold wjX12_setDoing_60 at hw
    refine lv_iconst (v := 1) hx hb dX12_setDoing_60 (by decide) ?_
    refine lv_goto (tgt := 65) hx hb dX12_setDoing_61 (by decide) ?_
    exact J65 1 M _ _ _ hw hP hS (lv_sub hl [0, 1, 2, 3, 4, 5] rfl)
  unfold wpX12_setDoing at hw
  refine lv_aload_n hx hb dX12_setDoing_0 rfl (lv_at hl 0 rfl) ?_
  refine lv_aload_n hx hb dX12_setDoing_1 rfl (lv_at hl 0 rfl) ?_
  refine rt_get F hP (rt_c12 _ rt_k0) (rt_l12 rt_k0) inX12 rfl 2 (by decide) kw_1142 rfl rfl dX12_setDoing_2 ?_
  refine rt_get F hP (rt_c9 _ rt_k6) (rt_l9 rt_k6) inX9 rfl 0 (by decide) kw_1004 rfl rfl dX12_setDoing_5 ?_
  refine lv_iconst (v := 1) hx hb dX12_setDoing_8 (by decide) ?_
  refine rt_calli (rt_runV (n := 2) (As := [.int (M 6 0), .int 1]) (rest := []) F hP hN hS (rt_frs hS.1) (rt_c12 _ rt_k0) (rt_l12 rt_k0) rfl (mtX12_start l D cA ad hI _ (M 6 0) 1 M _ hw) kw_1171 kw_1168 kw_60 kw_1170 kw_28 ⟨by decide, by decide, by decide +kernel⟩ ⟨rfl, rfl, Nat.le_of_ble_eq_true rfl, Nat.le_of_ble_eq_true rfl⟩ rfl hl.1 rfl (Nat.le_of_ble_eq_true rfl) dX12_setDoing_9 ⟨Nat.zero_le _, Nat.zero_le _⟩) hS (fun _ h => h) (fun r_9 M_9 H locs hw hP hS _ _ => ?_)
  refine lv_if_ne (tgt := 72) hx hb dX12_setDoing_12 (by decide) (fun hc12 => ?_) (fun hc12 => ?_)
  · replace hw := hw.1 hc12
    exact J72 M_9 _ _ _ hw hP hS (lv_sub hl [] rfl)
  · replace hw := hw.2 hc12
    refine lv_aload_n hx hb dX12_setDoing_15 rfl (lv_at hl 0 rfl) ?_
    refine lv_aload_n hx hb dX12_setDoing_16 rfl (lv_at hl 0 rfl) ?_
    refine lv_iload_n hx hb dX12_setDoing_17 rfl (lv_at hl 1 rfl) ?_
    refine rt_calli (rt_runV (n := 1) (As := [.int p1]) (rest := [.ref (ad 0)]) F hP hN hS (rt_frs hS.1) (rt_c12 _ rt_k0) (rt_l12 rt_k0) rfl (mtX12_isNoState l D cA ad hI _ p1 M_9 _ hw) kw_1179 kw_1176 kw_60 kw_1178 kw_30 ⟨by decide, by decide, by decide +kernel⟩ ⟨rfl, rfl, Nat.le_of_ble_eq_true rfl, Nat.le_of_ble_eq_true rfl⟩ rfl hl.1 rfl (Nat.le_of_ble_eq_true rfl) dX12_setDoing_18 ⟨Nat.zero_le _, Nat.zero_le _⟩) hS (fun _ h => h) (fun r_18 M_18 H locs hw hP hS _ _ => ?_)
    refine lv_iconst (v := 2) hx hb dX12_setDoing_21 (by decide) ?_
    refine rt_calli (rt_runV (n := 2) (As := [.int r_18, .int 2]) (rest := []) F hP hN hS (rt_frs hS.1) (rt_c12 _ rt_k0) (rt_l12 rt_k0) rfl (mtX12_refuse l D cA ad hI _ r_18 2 M_18 _ hw) kw_1175 kw_1172 kw_60 kw_1174 kw_29 ⟨by decide, by decide, by decide +kernel⟩ ⟨rfl, rfl, Nat.le_of_ble_eq_true rfl, Nat.le_of_ble_eq_true rfl⟩ rfl hl.1 rfl (Nat.le_of_ble_eq_true rfl) dX12_setDoing_22 ⟨Nat.zero_le _, Nat.zero_le _⟩) hS (fun _ h => h) (fun r_22 M_22 H locs hw hP hS _ _ => ?_)
    refine lv_if_ne (tgt := 72) hx hb dX12_setDoing_25 (by decide) (fun hc25 => ?_) (fun hc25 => ?_)
    · replace hw := hw.1 hc25
      exact J72 M_22 _ _ _ hw hP hS (lv_sub hl [] rfl)
    · replace hw := hw.2 hc25
      refine lv_aload_n hx hb dX12_setDoing_28 rfl (lv_at hl 0 rfl) ?_
      refine lv_aload_n hx hb dX12_setDoing_29 rfl (lv_at hl 0 rfl) ?_
      refine rt_get F hP (rt_c12 _ rt_k0) (rt_l12 rt_k0) inX12 rfl 1 (by decide) kw_1140 rfl rfl dX12_setDoing_30 ?_
      refine rt_get F hP (rt_c8 _ rt_k1) (rt_l8 rt_k1) inX8 rfl 0 (by decide) kw_985 rfl rfl dX12_setDoing_33 ?_
      refine lv_iload_n hx hb dX12_setDoing_36 rfl (lv_at hl 1 rfl) ?_
      refine rt_call4 (rt_runV (n := 1) (As := [.int p1]) (rest := [.ref (ad 0)]) F hP hN hS (rt_frs hS.1) (rt_c13 _ rt_k2) (rt_l13 rt_k2) rfl (mtJx4a65c_get_915e3 l D cA ad hI _ p1 M_22 _ hw) kw_1186 kw_1183 kw_64 kw_1184 kw_1185 ⟨by decide, by decide, by decide +kernel⟩ ⟨rfl, rfl, (Nat.le_of_ble_eq_true rfl), (Nat.le_of_ble_eq_true rfl)⟩ rfl hl.1 rfl (Nat.le_of_ble_eq_true rfl) dX12_setDoing_37 ⟨Nat.zero_le _, Nat.zero_le _⟩) hS (fun _ h => h) (fun M_37 H locs hw hP hS _ _ => ?_)
      refine rt_cast4 F hP kw_1046 dX12_setDoing_40 ?_
      refine rt_calli (rt_runV (n := 0) (As := []) (rest := [.ref (ad 0)]) F hP hN hS (rt_frs hS.1) (rt_c10 _ rt_k4) (rt_l10 rt_k4) rfl (mtX10_isMark l D cA ad hI _ M_37 _ hw) kw_1223 kw_1241 kw_66 kw_1221 kw_1222 ⟨by decide, by decide, by decide +kernel⟩ ⟨rfl, rfl, Nat.le_of_ble_eq_true rfl, Nat.le_of_ble_eq_true rfl⟩ rfl hl.1 rfl (Nat.le_of_ble_eq_true rfl) dX12_setDoing_43 ⟨Nat.zero_le _, Nat.zero_le _⟩) hS (fun _ h => h) (fun r_43 M_43 H locs hw hP hS _ _ => ?_)
      refine lv_if_ne (tgt := 60) hx hb dX12_setDoing_46 (by decide) (fun hc46 => ?_) (fun hc46 => ?_)
      · replace hw := hw.1 hc46
        exact J60 M_43 _ _ _ hw hP hS (lv_sub hl [0, 1, 2, 3, 4, 5] rfl)
      · replace hw := hw.2 hc46
        refine lv_iload_n hx hb dX12_setDoing_49 rfl (lv_at hl 3 rfl) ?_
        refine lv_iload hx hb dX12_setDoing_50 (lv_at hl 4 rfl) ?_
        refine lv_iload hx hb dX12_setDoing_52 (lv_at hl 5 rfl) ?_
        refine rt_calli (rt_runS (n := 3) (As := [.int p3, .int p4, .int p5]) (rest := [.ref (ad 0)]) F hP hN hS (rt_frs hS.1) (mtX12_isNoAction l D cA ad hI _ p3 p4 p5 M_43 _ hw) kw_1244 kw_1242 kw_60 kw_1243 ⟨by decide, by decide, by decide +kernel⟩ ⟨rfl, rfl, Nat.le_of_ble_eq_true rfl, Nat.le_of_ble_eq_true rfl⟩ rfl hl.1 rfl (Nat.le_of_ble_eq_true rfl) dX12_setDoing_54 ⟨Nat.zero_le _, Nat.zero_le _⟩) hS (fun _ h => h) (fun r_54 M_54 H locs hw hP hS _ _ => ?_)
        refine lv_if_eq (tgt := 64) hx hb dX12_setDoing_57 (by decide) (fun hc57 => ?_) (fun hc57 => ?_)
        · replace hw := hw.1 hc57
          refine lv_iconst (v := 0) hx hb dX12_setDoing_64 (by decide) ?_
          exact J65 0 M_54 _ _ _ hw hP hS (lv_sub hl [0, 1, 2, 3, 4, 5] rfl)
        · replace hw := hw.2 hc57
          exact J60 M_54 _ _ _ hw hP hS (lv_sub hl [0, 1, 2, 3, 4, 5] rfl)
-- ===== X12_addTransition
def wjX12_addTransition_154 (p1 : Int32) (p2 : Int32) (p3 : Int32) (p4 : Int32) (Q : Int32 → pt_M → Prop)  (xs0 : Int32) (M : pt_M) : Prop :=
  wpX12_refuse xs0 3 M (fun (r_160 : Int32) (M_160 : pt_M) => (r_160 = 0 → M_160 5 2 = 0 ∧ Q (((0 + 1) - 1)) M_160) ∧ (¬ r_160 = 0 → Q 0 M_160))
def wjX12_addTransition_153 (p1 : Int32) (p2 : Int32) (p3 : Int32) (p4 : Int32) (Q : Int32 → pt_M → Prop)   (M : pt_M) : Prop :=
  wjX12_addTransition_154 p1 p2 p3 p4 Q 0 M
def wjX12_addTransition_149 (p1 : Int32) (p2 : Int32) (p3 : Int32) (p4 : Int32) (Q : Int32 → pt_M → Prop)   (M : pt_M) : Prop :=
  wjX12_addTransition_154 p1 p2 p3 p4 Q 1 M
def wjX12_addTransition_134 (p1 : Int32) (p2 : Int32) (p3 : Int32) (p4 : Int32) (Q : Int32 → pt_M → Prop)   (M : pt_M) : Prop :=
  (p4 = 0 → wjX12_addTransition_149 p1 p2 p3 p4 Q M) ∧ (¬ p4 = 0 → (¬ p1 = 0 → wjX12_addTransition_153 p1 p2 p3 p4 Q M) ∧ (p1 = 0 → (p4 = (-1) → wjX12_addTransition_153 p1 p2 p3 p4 Q M) ∧ (¬ p4 = (-1) → wjX12_addTransition_149 p1 p2 p3 p4 Q M)))
def wjX12_addTransition_119 (p1 : Int32) (p2 : Int32) (p3 : Int32) (p4 : Int32) (Q : Int32 → pt_M → Prop)   (M : pt_M) : Prop :=
  (¬ p2 = 1 → wjX12_addTransition_134 p1 p2 p3 p4 Q M) ∧ (p2 = 1 → wpX12_isIn p3 1 50 M (fun (r_128 : Int32) (M_128 : pt_M) => (r_128 = 0 → wjX12_addTransition_149 p1 p2 p3 p4 Q M_128) ∧ (¬ r_128 = 0 → wjX12_addTransition_134 p1 p2 p3 p4 Q M_128)))
def wjX12_addTransition_74 (p1 : Int32) (p2 : Int32) (p3 : Int32) (p4 : Int32) (Q : Int32 → pt_M → Prop)   (M : pt_M) : Prop :=
  Q 0 M
def wjX12_addTransition_67 (p1 : Int32) (p2 : Int32) (p3 : Int32) (p4 : Int32) (Q : Int32 → pt_M → Prop)  (xs1 : Int32) (M : pt_M) : Prop :=
  wpX12_refuse xs1 2 M (fun (r_68 : Int32) (M_68 : pt_M) => (r_68 = 0 → wpJx4a65c_get_915e3 p1 M_68 (fun (M_84 : pt_M) => wpX10_isOpen M_84 (fun (r_90 : Int32) (M_90 : pt_M) => (r_90 = 0 → wjX12_addTransition_149 p1 p2 p3 p4 Q M_90) ∧ (¬ r_90 = 0 → wpX12_isIn p2 0 3 M_90 (fun (r_99 : Int32) (M_99 : pt_M) => (r_99 = 0 → wjX12_addTransition_149 p1 p2 p3 p4 Q M_99) ∧ (¬ r_99 = 0 → (¬ p2 = 0 → wjX12_addTransition_119 p1 p2 p3 p4 Q M_99) ∧ (p2 = 0 → wpX12_isIn p3 0 9 M_99 (fun (r_113 : Int32) (M_113 : pt_M) => (r_113 = 0 → wjX12_addTransition_149 p1 p2 p3 p4 Q M_113) ∧ (¬ r_113 = 0 → wjX12_addTransition_119 p1 p2 p3 p4 Q M_113))))))))) ∧ (¬ r_68 = 0 → wjX12_addTransition_74 p1 p2 p3 p4 Q M_68))
def wjX12_addTransition_66 (p1 : Int32) (p2 : Int32) (p3 : Int32) (p4 : Int32) (Q : Int32 → pt_M → Prop)   (M : pt_M) : Prop :=
  wjX12_addTransition_67 p1 p2 p3 p4 Q 0 M
def wjX12_addTransition_62 (p1 : Int32) (p2 : Int32) (p3 : Int32) (p4 : Int32) (Q : Int32 → pt_M → Prop)   (M : pt_M) : Prop :=
  wjX12_addTransition_67 p1 p2 p3 p4 Q 1 M
def wjX12_addTransition_31 (p1 : Int32) (p2 : Int32) (p3 : Int32) (p4 : Int32) (Q : Int32 → pt_M → Prop)  (xs1 : Int32) (M : pt_M) : Prop :=
  wpX12_start xs1 1 M (fun (r_32 : Int32) (M_32 : pt_M) => (¬ r_32 = 0 → wjX12_addTransition_74 p1 p2 p3 p4 Q M_32) ∧ (r_32 = 0 → wpX12_isNoState p1 M_32 (fun (r_41 : Int32) (M_41 : pt_M) => (¬ r_41 = 0 → wjX12_addTransition_62 p1 p2 p3 p4 Q M_41) ∧ (r_41 = 0 → (p4 = (-1) → wjX12_addTransition_66 p1 p2 p3 p4 Q M_41) ∧ (¬ p4 = (-1) → wpX12_isNoState p4 M_41 (fun (r_56 : Int32) (M_56 : pt_M) => (r_56 = 0 → wjX12_addTransition_66 p1 p2 p3 p4 Q M_56) ∧ (¬ r_56 = 0 → wjX12_addTransition_62 p1 p2 p3 p4 Q M_56)))))))
def wjX12_addTransition_26 (p1 : Int32) (p2 : Int32) (p3 : Int32) (p4 : Int32) (Q : Int32 → pt_M → Prop)   (M : pt_M) : Prop :=
  wjX12_addTransition_31 p1 p2 p3 p4 Q 1 M
def wpX12_addTransition (p1 : Int32) (p2 : Int32) (p3 : Int32) (p4 : Int32) (M : pt_M) (Q : Int32 → pt_M → Prop) : Prop :=
  (¬ (M 6 0) = 0 → wjX12_addTransition_26 p1 p2 p3 p4 Q M) ∧ ((M 6 0) = 0 → wpJx4a65c_size_8abf5 5 M (fun (r_18 : Int32) (M_18 : pt_M) => (¬ r_18 = 30 → wjX12_addTransition_31 p1 p2 p3 p4 Q 0 M_18) ∧ (r_18 = 30 → wjX12_addTransition_26 p1 p2 p3 p4 Q M_18)))
set_option maxHeartbeats 4000000 in
set_option maxRecDepth 100000 in
theorem mtX12_addTransition (l : Launch) (D : va_G) (cA : Nat → ClassId) (ad : Nat → Nat) (hI : rt_I ad) (sz : Nat) (p1 : Int32) (p2 : Int32) (p3 : Int32) (p4 : Int32) (M : pt_M) (Q : Int32 → pt_M → Prop) (hw : wpX12_addTransition p1 p2 p3 p4 M Q) : Met l yX12_addTransition (Cond.code yX12_addTransition cX12_addTransition 6 (some .int) :: lw_all) ({ frames := 5, cells := 2, slots := 16, locals := 108 } : Room) (va_Pc [.ref (ad 0), .int p1, .int p2, .int p3, .int p4] (rt_P D cA ad sz M)) (va_Qi Q (rt_B0 D cA ad) (rt_fr ad sz)) 2 16 (rt_fr ad sz) := by
  refine Met.ofW (cc := cX12_addTransition) (maxL := 6) (ret := (some .int)) (by decide) rfl ?_
  intro p e s m args below meth c s₁ B hml hv
  obtain ⟨rfl, hsz, hP, hK, hN⟩ := hv
  have hx := B.exec
  have hb := B.bytes
  have hr := B.returns
  have hts0 := atoms_spec (ws := (Cond.code yX12_addTransition cX12_addTransition 6 (some .int) :: lw_all)) B.pre
  have hown : s.vm.findClass RX12 = some m.cls := findClass_of_methodNamed B.named
  have hlocks := B.notSynchronized
  subst hsz
  have F : pt_F p m c cX12_addTransition 6 s _ RX12 D cA := ⟨⟨hx, hb, hml, hown, fun w h => hts0 w (List.mem_cons_of_mem _ h)⟩, hK⟩
  have hD : ∀ M, va_D (rt_fr ad s.heap.size) (rt_W cA ad M) := rt_D hI (fun k h => Or.inl ⟨k, h, rfl⟩)
  have hS : va_S (rt_fr ad s.heap.size) s.heap s.heap [] := va_S.rf
  have hl := lv_entry ([.ref (ad 0), .int p1, .int p2, .int p3, .int p4]) (n := 6) (Nat.le_of_ble_eq_true rfl)
  rw [lg_entry_eq]
  generalize (lg_sl ([.ref (ad 0), .int p1, .int p2, .int p3, .int p4]) ++ List.replicate (6 - (lg_sl ([.ref (ad 0), .int p1, .int p2, .int p3, .int p4])).length) Slot.unset).toArray = ls at hl ⊢
  have hl : lv_has ls 6 [(0, .ref (ad 0)), (1, .int p1), (2, .int p2), (3, .int p3), (4, .int p4)] := hl
  have J154 : ∀ (xs0 : Int32) (M : pt_M) (H : Heap) (locs : List Loc) (ls : Array Slot), wjX12_addTransition_154 p1 p2 p3 p4 Q xs0 M → va_P D pt_cl (rt_W cA ad M) H → va_S (rt_fr ad s.heap.size) s.heap H locs → lv_has ls 6 [(0, .ref (ad 0)), (1, .int p1), (2, .int p2), (3, .int p3), (4, .int p4)] → W p l e (headSpec (Cond.code yX12_addTransition cX12_addTransition 6 (some .int) :: lw_all) ({ frames := 5, cells := 2, slots := 16, locals := 108 } : Room)).room s m ([.ref (ad 0), .int p1, .int p2, .int p3, .int p4] : List Value).toArray below meth c H locs 0 0 (MQ below (va_Qi Q (rt_B0 D cA ad) (rt_fr ad s.heap.size)) ([.ref (ad 0), .int p1, .int p2, .int p3, .int p4] : List Value).toArray s 2 16 (rt_fr ad s.heap.size)) (F0 m 154 ls [.int xs0]) := by
    intro xs0 M H locs ls hw hP hS hl
    unfold wjX12_addTransition_154 at hw
    refine lv_istore (lv' := [(5, .int xs0), (0, .ref (ad 0)), (1, .int p1), (2, .int p2), (3, .int p3), (4, .int p4)]) hx hb dX12_addTransition_154 hl (by decide) rfl (fun ls hl => ?_)
    refine lv_aload_n hx hb dX12_addTransition_156 rfl (lv_at hl 1 rfl) ?_
    refine lv_iload hx hb dX12_addTransition_157 (lv_at hl 0 rfl) ?_
    refine lv_iconst (v := 3) hx hb dX12_addTransition_159 (by decide) ?_
    refine rt_calli (rt_runV (n := 2) (As := [.int xs0, .int 3]) (rest := []) F hP hN hS (rt_frs hS.1) (rt_c12 _ rt_k0) (rt_l12 rt_k0) rfl (mtX12_refuse l D cA ad hI _ xs0 3 M _ hw) kw_1175 kw_1172 kw_60 kw_1174 kw_29 ⟨by decide, by decide, by decide +kernel⟩ ⟨rfl, rfl, Nat.le_of_ble_eq_true rfl, Nat.le_of_ble_eq_true rfl⟩ rfl hl.1 rfl (Nat.le_of_ble_eq_true rfl) dX12_addTransition_160 ⟨Nat.zero_le _, Nat.zero_le _⟩) hS (fun _ h => h) (fun r_160 M_160 H locs hw hP hS _ _ => ?_)
    refine lv_if_eq (tgt := 168) hx hb dX12_addTransition_163 (by decide) (fun hc163 => ?_) (fun hc163 => ?_)
    · replace hw := hw.1 hc163
      refine lv_aload_n hx hb dX12_addTransition_168 rfl (lv_at hl 1 rfl) ?_
      refine rt_get F hP (rt_c12 _ rt_k0) (rt_l12 rt_k0) inX12 rfl 1 (by decide) kw_1140 rfl rfl dX12_addTransition_169 ?_
      refine rt_get F hP (rt_c8 _ rt_k1) (rt_l8 rt_k1) inX8 rfl 1 (by decide) kw_988 rfl rfl dX12_addTransition_172 ?_
      have h0 := hw.1
      replace hw := hw.2
      replace hP := (show ∀ n : Int32, n = M_160 5 2 → va_P D pt_cl (([] : va_W) ++ [((ad 0), .inr (12, [.int (M_160 0 0), .ref (ad 1), .ref (ad 6), .ref (ad 12), .int (M_160 0 4)])), ((ad 1), .inr (8, [.ref (ad 2), .ref (ad 5)])), ((ad 2), .inr (13, [.int (M_160 2 0), .ref (ad 3), .int (M_160 2 2)])), ((ad 3), .inl (cA 4, 10, .inr (.inr (.inr (.inr (fun i => if i = 0 then some (ad 4) else none)))))), ((ad 4), .inr (10, [.int (M_160 4 0), .int (M_160 4 1), .int (M_160 4 2), .ref (ad 13), .ref (ad 13)])), ((ad 5), .inr (13, [.int (M_160 5 0), .ref (ad 14), .int n])), ((ad 6), .inr (9, [.int (M_160 6 0), .int (M_160 6 1), .ref (ad 7), .ref (ad 8), .ref (ad 9), .ref (ad 10), .ref (ad 11), .int (M_160 6 7), .int (M_160 6 8), .int (M_160 6 9), .ref (ad 0)])), ((ad 7), .inl (cA 0, 20, .inl (M_160 7))), ((ad 8), .inl (cA 0, 20, .inl (M_160 8))), ((ad 9), .inl (cA 0, 4, .inl (M_160 9))), ((ad 10), .inl (cA 0, 30, .inl (M_160 10))), ((ad 11), .inr (13, [.int (M_160 11 0), .ref (ad 14), .int (M_160 11 2)])), ((ad 12), .inl (cA 0, 0, .inl (M_160 12)))]) H from fun n e => by subst e; exact hP) 0 h0.symm
      replace hD := (show ∀ n : Int32, n = M_160 5 2 → va_D (rt_fr ad s.heap.size) (([] : va_W) ++ [((ad 0), .inr (12, [.int (M_160 0 0), .ref (ad 1), .ref (ad 6), .ref (ad 12), .int (M_160 0 4)])), ((ad 1), .inr (8, [.ref (ad 2), .ref (ad 5)])), ((ad 2), .inr (13, [.int (M_160 2 0), .ref (ad 3), .int (M_160 2 2)])), ((ad 3), .inl (cA 4, 10, .inr (.inr (.inr (.inr (fun i => if i = 0 then some (ad 4) else none)))))), ((ad 4), .inr (10, [.int (M_160 4 0), .int (M_160 4 1), .int (M_160 4 2), .ref (ad 13), .ref (ad 13)])), ((ad 5), .inr (13, [.int (M_160 5 0), .ref (ad 14), .int n])), ((ad 6), .inr (9, [.int (M_160 6 0), .int (M_160 6 1), .ref (ad 7), .ref (ad 8), .ref (ad 9), .ref (ad 10), .ref (ad 11), .int (M_160 6 7), .int (M_160 6 8), .int (M_160 6 9), .ref (ad 0)])), ((ad 7), .inl (cA 0, 20, .inl (M_160 7))), ((ad 8), .inl (cA 0, 20, .inl (M_160 8))), ((ad 9), .inl (cA 0, 4, .inl (M_160 9))), ((ad 10), .inl (cA 0, 30, .inl (M_160 10))), ((ad 11), .inr (13, [.int (M_160 11 0), .ref (ad 14), .int (M_160 11 2)])), ((ad 12), .inl (cA 0, 0, .inl (M_160 12)))]) from fun n e => by subst e; exact hD M_160) 0 h0.symm
      have hA : ∀ q, s.heap.size ≤ q → rt_fr ad s.heap.size q := fun q h => Or.inr h
      have s_cb : 2 ≤ (headSpec (Cond.code yX12_addTransition cX12_addTransition 6 (some .int) :: lw_all) ({ frames := 5, cells := 2, slots := 16, locals := 108 } : Room)).room.cells := (Nat.le_of_ble_eq_true rfl)
      have s_sb : 16 ≤ (headSpec (Cond.code yX12_addTransition cX12_addTransition 6 (some .int) :: lw_all) ({ frames := 5, cells := 2, slots := 16, locals := 108 } : Room)).room.slots := (Nat.le_of_ble_eq_true rfl)
      refine pt_ynew (ci := 11) (fs := [.int 0, .int 0, .int 0, .int 0, .null, .null]) F hP hD hS hA inX11 tyX11 tyX11_ok kw_1249 kw_1250 kw_81 rfl (fun j hj => by rcases (show j = 0 ∨ j = 1 ∨ j = 2 ∨ j = 3 ∨ j = 4 ∨ j = 5 by omega) with rfl | rfl | rfl | rfl | rfl | rfl <;> rfl) (Nat.le_trans (Nat.le_of_ble_eq_true rfl) s_cb) (Nat.le_trans (Nat.le_of_ble_eq_true rfl) s_sb) dX12_addTransition_175 (fun q175 H hP hD hS => ?_)
      replace hP : va_P D pt_cl (([] : va_W) ++ [((ad 0), .inr (12, [.int (M_160 0 0), .ref (ad 1), .ref (ad 6), .ref (ad 12), .int (M_160 0 4)])), ((ad 1), .inr (8, [.ref (ad 2), .ref (ad 5)])), ((ad 2), .inr (13, [.int (M_160 2 0), .ref (ad 3), .int (M_160 2 2)])), ((ad 3), .inl (cA 4, 10, .inr (.inr (.inr (.inr (fun i => if i = 0 then some (ad 4) else none)))))), ((ad 4), .inr (10, [.int (M_160 4 0), .int (M_160 4 1), .int (M_160 4 2), .ref (ad 13), .ref (ad 13)])), ((ad 5), .inr (13, [.int (M_160 5 0), .ref (ad 14), .int 0])), ((ad 6), .inr (9, [.int (M_160 6 0), .int (M_160 6 1), .ref (ad 7), .ref (ad 8), .ref (ad 9), .ref (ad 10), .ref (ad 11), .int (M_160 6 7), .int (M_160 6 8), .int (M_160 6 9), .ref (ad 0)])), ((ad 7), .inl (cA 0, 20, .inl (M_160 7))), ((ad 8), .inl (cA 0, 20, .inl (M_160 8))), ((ad 9), .inl (cA 0, 4, .inl (M_160 9))), ((ad 10), .inl (cA 0, 30, .inl (M_160 10))), ((ad 11), .inr (13, [.int (M_160 11 0), .ref (ad 14), .int (M_160 11 2)])), ((ad 12), .inl (cA 0, 0, .inl (M_160 12))), (q175, .inr (11, [.int 0, .int 0, .int 0, .int 0, .null, .null]))]) H := hP
      replace hD : va_D (rt_fr ad s.heap.size) (([] : va_W) ++ [((ad 0), .inr (12, [.int (M_160 0 0), .ref (ad 1), .ref (ad 6), .ref (ad 12), .int (M_160 0 4)])), ((ad 1), .inr (8, [.ref (ad 2), .ref (ad 5)])), ((ad 2), .inr (13, [.int (M_160 2 0), .ref (ad 3), .int (M_160 2 2)])), ((ad 3), .inl (cA 4, 10, .inr (.inr (.inr (.inr (fun i => if i = 0 then some (ad 4) else none)))))), ((ad 4), .inr (10, [.int (M_160 4 0), .int (M_160 4 1), .int (M_160 4 2), .ref (ad 13), .ref (ad 13)])), ((ad 5), .inr (13, [.int (M_160 5 0), .ref (ad 14), .int 0])), ((ad 6), .inr (9, [.int (M_160 6 0), .int (M_160 6 1), .ref (ad 7), .ref (ad 8), .ref (ad 9), .ref (ad 10), .ref (ad 11), .int (M_160 6 7), .int (M_160 6 8), .int (M_160 6 9), .ref (ad 0)])), ((ad 7), .inl (cA 0, 20, .inl (M_160 7))), ((ad 8), .inl (cA 0, 20, .inl (M_160 8))), ((ad 9), .inl (cA 0, 4, .inl (M_160 9))), ((ad 10), .inl (cA 0, 30, .inl (M_160 10))), ((ad 11), .inr (13, [.int (M_160 11 0), .ref (ad 14), .int (M_160 11 2)])), ((ad 12), .inl (cA 0, 0, .inl (M_160 12))), (q175, .inr (11, [.int 0, .int 0, .int 0, .int 0, .null, .null]))]) := hD
      refine W.widen (k := 1) (n := 6) (Nat.le_of_ble_eq_true rfl) (Nat.le_of_ble_eq_true rfl) ?_
      refine lv_dup hx hb dX12_addTransition_178 rfl ?_
      refine lv_iload_n hx hb dX12_addTransition_179 rfl (lv_at hl 2 rfl) ?_
      refine lv_iload_n hx hb dX12_addTransition_180 rfl (lv_at hl 3 rfl) ?_
      refine lv_iload_n hx hb dX12_addTransition_181 rfl (lv_at hl 4 rfl) ?_
      refine lv_iload hx hb dX12_addTransition_182 (lv_at hl 5 rfl) ?_
      refine sx_callv (wc := [(q175, .inr (11, [.int 0, .int 0, .int 0, .int 0, .null, .null]))]) (wr := [((ad 0), .inr (12, [.int (M_160 0 0), .ref (ad 1), .ref (ad 6), .ref (ad 12), .int (M_160 0 4)])), ((ad 1), .inr (8, [.ref (ad 2), .ref (ad 5)])), ((ad 2), .inr (13, [.int (M_160 2 0), .ref (ad 3), .int (M_160 2 2)])), ((ad 3), .inl (cA 4, 10, .inr (.inr (.inr (.inr (fun i => if i = 0 then some (ad 4) else none)))))), ((ad 4), .inr (10, [.int (M_160 4 0), .int (M_160 4 1), .int (M_160 4 2), .ref (ad 13), .ref (ad 13)])), ((ad 5), .inr (13, [.int (M_160 5 0), .ref (ad 14), .int 0])), ((ad 6), .inr (9, [.int (M_160 6 0), .int (M_160 6 1), .ref (ad 7), .ref (ad 8), .ref (ad 9), .ref (ad 10), .ref (ad 11), .int (M_160 6 7), .int (M_160 6 8), .int (M_160 6 9), .ref (ad 0)])), ((ad 7), .inl (cA 0, 20, .inl (M_160 7))), ((ad 8), .inl (cA 0, 20, .inl (M_160 8))), ((ad 9), .inl (cA 0, 4, .inl (M_160 9))), ((ad 10), .inl (cA 0, 30, .inl (M_160 10))), ((ad 11), .inr (13, [.int (M_160 11 0), .ref (ad 14), .int (M_160 11 2)])), ((ad 12), .inl (cA 0, 0, .inl (M_160 12)))]) (pt_krun (n := 4) (As := [.int p1, .int p2, .int p3, .int p4]) (rest := [.ref q175, .ref (ad 5)]) F (mtTR l D cA _ (ad 13) (ad 14) q175 p1 p2 p3 p4 ) sx_blind (sx_pre (wc := [(q175, .inr (11, [.int 0, .int 0, .int 0, .int 0, .null, .null]))]) F hP hD hN hS hA [13] rfl rfl) kw_1253 (Or.inl kw_1251) kw_81 kw_1252 rfl ⟨by decide, by decide, by decide +kernel⟩ ⟨rfl, rfl, (Nat.le_of_ble_eq_true rfl), (Nat.le_of_ble_eq_true rfl)⟩ rfl hl.1 rfl (Nat.le_of_ble_eq_true rfl) dX12_addTransition_184 ⟨(Nat.le_trans (Nat.le_of_ble_eq_true rfl) s_cb), (Nat.le_trans (Nat.le_of_ble_eq_true rfl) s_sb)⟩) hP hD hS hA [13] [0, 1, 2, 3, 4, 5, 6, 7, 8, 9, 10, 11, 12] rfl rfl rfl (by decide) (fun _ H locs _ hP hD hS => ?_)
      replace hP : va_P D pt_cl (([] : va_W) ++ [((ad 0), .inr (12, [.int (M_160 0 0), .ref (ad 1), .ref (ad 6), .ref (ad 12), .int (M_160 0 4)])), ((ad 1), .inr (8, [.ref (ad 2), .ref (ad 5)])), ((ad 2), .inr (13, [.int (M_160 2 0), .ref (ad 3), .int (M_160 2 2)])), ((ad 3), .inl (cA 4, 10, .inr (.inr (.inr (.inr (fun i => if i = 0 then some (ad 4) else none)))))), ((ad 4), .inr (10, [.int (M_160 4 0), .int (M_160 4 1), .int (M_160 4 2), .ref (ad 13), .ref (ad 13)])), ((ad 5), .inr (13, [.int (M_160 5 0), .ref (ad 14), .int 0])), ((ad 6), .inr (9, [.int (M_160 6 0), .int (M_160 6 1), .ref (ad 7), .ref (ad 8), .ref (ad 9), .ref (ad 10), .ref (ad 11), .int (M_160 6 7), .int (M_160 6 8), .int (M_160 6 9), .ref (ad 0)])), ((ad 7), .inl (cA 0, 20, .inl (M_160 7))), ((ad 8), .inl (cA 0, 20, .inl (M_160 8))), ((ad 9), .inl (cA 0, 4, .inl (M_160 9))), ((ad 10), .inl (cA 0, 30, .inl (M_160 10))), ((ad 11), .inr (13, [.int (M_160 11 0), .ref (ad 14), .int (M_160 11 2)])), ((ad 12), .inl (cA 0, 0, .inl (M_160 12))), (q175, .inr (11, [.int p1, .int p2, .int p3, .int p4, .ref (ad 13), .ref (ad 13)]))]) H := hP
      replace hD : va_D (rt_fr ad s.heap.size) (([] : va_W) ++ [((ad 0), .inr (12, [.int (M_160 0 0), .ref (ad 1), .ref (ad 6), .ref (ad 12), .int (M_160 0 4)])), ((ad 1), .inr (8, [.ref (ad 2), .ref (ad 5)])), ((ad 2), .inr (13, [.int (M_160 2 0), .ref (ad 3), .int (M_160 2 2)])), ((ad 3), .inl (cA 4, 10, .inr (.inr (.inr (.inr (fun i => if i = 0 then some (ad 4) else none)))))), ((ad 4), .inr (10, [.int (M_160 4 0), .int (M_160 4 1), .int (M_160 4 2), .ref (ad 13), .ref (ad 13)])), ((ad 5), .inr (13, [.int (M_160 5 0), .ref (ad 14), .int 0])), ((ad 6), .inr (9, [.int (M_160 6 0), .int (M_160 6 1), .ref (ad 7), .ref (ad 8), .ref (ad 9), .ref (ad 10), .ref (ad 11), .int (M_160 6 7), .int (M_160 6 8), .int (M_160 6 9), .ref (ad 0)])), ((ad 7), .inl (cA 0, 20, .inl (M_160 7))), ((ad 8), .inl (cA 0, 20, .inl (M_160 8))), ((ad 9), .inl (cA 0, 4, .inl (M_160 9))), ((ad 10), .inl (cA 0, 30, .inl (M_160 10))), ((ad 11), .inr (13, [.int (M_160 11 0), .ref (ad 14), .int (M_160 11 2)])), ((ad 12), .inl (cA 0, 0, .inl (M_160 12))), (q175, .inr (11, [.int p1, .int p2, .int p3, .int p4, .ref (ad 13), .ref (ad 13)]))]) := hD
      refine W.widen (k := 1) (n := 6) (Nat.le_of_ble_eq_true rfl) (Nat.le_of_ble_eq_true rfl) ?_
      refine sx_calli (wc := [((ad 5), .inr (13, [.int (M_160 5 0), .ref (ad 14), .int 0])), (q175, .inr (11, [.int p1, .int p2, .int p3, .int p4, .ref (ad 13), .ref (ad 13)]))]) (wr := [((ad 0), .inr (12, [.int (M_160 0 0), .ref (ad 1), .ref (ad 6), .ref (ad 12), .int (M_160 0 4)])), ((ad 1), .inr (8, [.ref (ad 2), .ref (ad 5)])), ((ad 2), .inr (13, [.int (M_160 2 0), .ref (ad 3), .int (M_160 2 2)])), ((ad 3), .inl (cA 4, 10, .inr (.inr (.inr (.inr (fun i => if i = 0 then some (ad 4) else none)))))), ((ad 4), .inr (10, [.int (M_160 4 0), .int (M_160 4 1), .int (M_160 4 2), .ref (ad 13), .ref (ad 13)])), ((ad 6), .inr (9, [.int (M_160 6 0), .int (M_160 6 1), .ref (ad 7), .ref (ad 8), .ref (ad 9), .ref (ad 10), .ref (ad 11), .int (M_160 6 7), .int (M_160 6 8), .int (M_160 6 9), .ref (ad 0)])), ((ad 7), .inl (cA 0, 20, .inl (M_160 7))), ((ad 8), .inl (cA 0, 20, .inl (M_160 8))), ((ad 9), .inl (cA 0, 4, .inl (M_160 9))), ((ad 10), .inl (cA 0, 30, .inl (M_160 10))), ((ad 11), .inr (13, [.int (M_160 11 0), .ref (ad 14), .int (M_160 11 2)])), ((ad 12), .inl (cA 0, 0, .inl (M_160 12)))]) (sx_runV (n := 1) (As := [.ref q175]) (rest := []) F hP 5 rfl rfl (mtA1f l D cA _ (ad 13) (ad 14) ((ad 5)) q175 ((M_160 5 0)) 11 ([.int p1, .int p2, .int p3, .int p4, .ref (ad 13), .ref (ad 13)]) (show pt_cl[11]? = some (RX11, TX11, 6) from rfl) kw_1659) sx_blind (sx_pre (wc := [((ad 5), .inr (13, [.int (M_160 5 0), .ref (ad 14), .int 0])), (q175, .inr (11, [.int p1, .int p2, .int p3, .int p4, .ref (ad 13), .ref (ad 13)]))]) F hP hD hN hS hA [5, 13] rfl rfl) kw_1083 kw_1080 kw_64 kw_1081 kw_1082 ⟨by decide, by decide, by decide +kernel⟩ ⟨rfl, rfl, (Nat.le_of_ble_eq_true rfl), (Nat.le_of_ble_eq_true rfl)⟩ rfl hl.1 rfl (Nat.le_of_ble_eq_true rfl) dX12_addTransition_187 ⟨(Nat.le_trans (Nat.le_of_ble_eq_true rfl) s_cb), (Nat.le_trans (Nat.le_of_ble_eq_true rfl) s_sb)⟩) hP hD hS hA [5, 13] [0, 1, 2, 3, 4, 6, 7, 8, 9, 10, 11, 12] rfl rfl rfl (by decide) (fun r_187 q52_7_7_20_187 H locs e_187 hP hD hS => ?_)
      obtain rfl := e_187
      replace hP : va_P D pt_cl (([] : va_W) ++ [((ad 0), .inr (12, [.int (M_160 0 0), .ref (ad 1), .ref (ad 6), .ref (ad 12), .int (M_160 0 4)])), ((ad 1), .inr (8, [.ref (ad 2), .ref (ad 5)])), ((ad 2), .inr (13, [.int (M_160 2 0), .ref (ad 3), .int (M_160 2 2)])), ((ad 3), .inl (cA 4, 10, .inr (.inr (.inr (.inr (fun i => if i = 0 then some (ad 4) else none)))))), ((ad 4), .inr (10, [.int (M_160 4 0), .int (M_160 4 1), .int (M_160 4 2), .ref (ad 13), .ref (ad 13)])), ((ad 6), .inr (9, [.int (M_160 6 0), .int (M_160 6 1), .ref (ad 7), .ref (ad 8), .ref (ad 9), .ref (ad 10), .ref (ad 11), .int (M_160 6 7), .int (M_160 6 8), .int (M_160 6 9), .ref (ad 0)])), ((ad 7), .inl (cA 0, 20, .inl (M_160 7))), ((ad 8), .inl (cA 0, 20, .inl (M_160 8))), ((ad 9), .inl (cA 0, 4, .inl (M_160 9))), ((ad 10), .inl (cA 0, 30, .inl (M_160 10))), ((ad 11), .inr (13, [.int (M_160 11 0), .ref (ad 14), .int (M_160 11 2)])), ((ad 12), .inl (cA 0, 0, .inl (M_160 12))), (q175, .inr (11, [.int p1, .int p2, .int p3, .int p4, .ref (ad 13), .ref (ad 13)])), ((ad 5), .inr (13, [.int ((M_160 5 0) + 1), .ref q52_7_7_20_187, .int (0 + 1)])), (q52_7_7_20_187, .inl (cA 4, 10, .inr (.inr (.inr (.inr (fun i => if i = 0 then some q175 else none))))))]) H := hP
      replace hD : va_D (rt_fr ad s.heap.size) (([] : va_W) ++ [((ad 0), .inr (12, [.int (M_160 0 0), .ref (ad 1), .ref (ad 6), .ref (ad 12), .int (M_160 0 4)])), ((ad 1), .inr (8, [.ref (ad 2), .ref (ad 5)])), ((ad 2), .inr (13, [.int (M_160 2 0), .ref (ad 3), .int (M_160 2 2)])), ((ad 3), .inl (cA 4, 10, .inr (.inr (.inr (.inr (fun i => if i = 0 then some (ad 4) else none)))))), ((ad 4), .inr (10, [.int (M_160 4 0), .int (M_160 4 1), .int (M_160 4 2), .ref (ad 13), .ref (ad 13)])), ((ad 6), .inr (9, [.int (M_160 6 0), .int (M_160 6 1), .ref (ad 7), .ref (ad 8), .ref (ad 9), .ref (ad 10), .ref (ad 11), .int (M_160 6 7), .int (M_160 6 8), .int (M_160 6 9), .ref (ad 0)])), ((ad 7), .inl (cA 0, 20, .inl (M_160 7))), ((ad 8), .inl (cA 0, 20, .inl (M_160 8))), ((ad 9), .inl (cA 0, 4, .inl (M_160 9))), ((ad 10), .inl (cA 0, 30, .inl (M_160 10))), ((ad 11), .inr (13, [.int (M_160 11 0), .ref (ad 14), .int (M_160 11 2)])), ((ad 12), .inl (cA 0, 0, .inl (M_160 12))), (q175, .inr (11, [.int p1, .int p2, .int p3, .int p4, .ref (ad 13), .ref (ad 13)])), ((ad 5), .inr (13, [.int ((M_160 5 0) + 1), .ref q52_7_7_20_187, .int (0 + 1)])), (q52_7_7_20_187, .inl (cA 4, 10, .inr (.inr (.inr (.inr (fun i => if i = 0 then some q175 else none))))))]) := hD
      refine W.widen (k := 2) (n := 16) (Nat.le_of_ble_eq_true rfl) (Nat.le_of_ble_eq_true rfl) ?_
      refine lv_pop hx hb dX12_addTransition_190 rfl ?_
      refine lv_aload_n hx hb dX12_addTransition_191 rfl (lv_at hl 1 rfl) ?_
      refine sx_get F hP 0 rfl inX12 rfl 1 (by decide) kw_1140 rfl rfl dX12_addTransition_192 ?_
      refine sx_get F hP 1 rfl inX8 rfl 1 (by decide) kw_988 rfl rfl dX12_addTransition_195 ?_
      refine sx_calli (wc := [((ad 5), .inr (13, [.int ((M_160 5 0) + 1), .ref q52_7_7_20_187, .int (0 + 1)]))]) (wr := [((ad 0), .inr (12, [.int (M_160 0 0), .ref (ad 1), .ref (ad 6), .ref (ad 12), .int (M_160 0 4)])), ((ad 1), .inr (8, [.ref (ad 2), .ref (ad 5)])), ((ad 2), .inr (13, [.int (M_160 2 0), .ref (ad 3), .int (M_160 2 2)])), ((ad 3), .inl (cA 4, 10, .inr (.inr (.inr (.inr (fun i => if i = 0 then some (ad 4) else none)))))), ((ad 4), .inr (10, [.int (M_160 4 0), .int (M_160 4 1), .int (M_160 4 2), .ref (ad 13), .ref (ad 13)])), ((ad 6), .inr (9, [.int (M_160 6 0), .int (M_160 6 1), .ref (ad 7), .ref (ad 8), .ref (ad 9), .ref (ad 10), .ref (ad 11), .int (M_160 6 7), .int (M_160 6 8), .int (M_160 6 9), .ref (ad 0)])), ((ad 7), .inl (cA 0, 20, .inl (M_160 7))), ((ad 8), .inl (cA 0, 20, .inl (M_160 8))), ((ad 9), .inl (cA 0, 4, .inl (M_160 9))), ((ad 10), .inl (cA 0, 30, .inl (M_160 10))), ((ad 11), .inr (13, [.int (M_160 11 0), .ref (ad 14), .int (M_160 11 2)])), ((ad 12), .inl (cA 0, 0, .inl (M_160 12))), (q175, .inr (11, [.int p1, .int p2, .int p3, .int p4, .ref (ad 13), .ref (ad 13)])), (q52_7_7_20_187, .inl (cA 4, 10, .inr (.inr (.inr (.inr (fun i => if i = 0 then some q175 else none))))))]) (sx_runV (n := 0) (As := []) (rest := []) F hP 13 rfl rfl (mtSZ l D cA _ (ad 13) (ad 14) ((ad 5)) (((M_160 5 0) + 1)) q52_7_7_20_187 ((0 + 1)) ) sx_blind (sx_pre (wc := [((ad 5), .inr (13, [.int ((M_160 5 0) + 1), .ref q52_7_7_20_187, .int (0 + 1)]))]) F hP hD hN hS hA [13] rfl rfl) kw_1167 kw_1164 kw_64 kw_1165 kw_1166 ⟨by decide, by decide, by decide +kernel⟩ ⟨rfl, rfl, (Nat.le_of_ble_eq_true rfl), (Nat.le_of_ble_eq_true rfl)⟩ rfl hl.1 rfl (Nat.le_of_ble_eq_true rfl) dX12_addTransition_198 ⟨(Nat.le_trans (Nat.le_of_ble_eq_true rfl) s_cb), (Nat.le_trans (Nat.le_of_ble_eq_true rfl) s_sb)⟩) hP hD hS hA [13] [0, 1, 2, 3, 4, 5, 6, 7, 8, 9, 10, 11, 12, 14] rfl rfl rfl (by decide) (fun r_198 _ H locs e_198 hP hD hS => ?_)
      obtain rfl := e_198
      replace hP : va_P D pt_cl (([] : va_W) ++ [((ad 0), .inr (12, [.int (M_160 0 0), .ref (ad 1), .ref (ad 6), .ref (ad 12), .int (M_160 0 4)])), ((ad 1), .inr (8, [.ref (ad 2), .ref (ad 5)])), ((ad 2), .inr (13, [.int (M_160 2 0), .ref (ad 3), .int (M_160 2 2)])), ((ad 3), .inl (cA 4, 10, .inr (.inr (.inr (.inr (fun i => if i = 0 then some (ad 4) else none)))))), ((ad 4), .inr (10, [.int (M_160 4 0), .int (M_160 4 1), .int (M_160 4 2), .ref (ad 13), .ref (ad 13)])), ((ad 6), .inr (9, [.int (M_160 6 0), .int (M_160 6 1), .ref (ad 7), .ref (ad 8), .ref (ad 9), .ref (ad 10), .ref (ad 11), .int (M_160 6 7), .int (M_160 6 8), .int (M_160 6 9), .ref (ad 0)])), ((ad 7), .inl (cA 0, 20, .inl (M_160 7))), ((ad 8), .inl (cA 0, 20, .inl (M_160 8))), ((ad 9), .inl (cA 0, 4, .inl (M_160 9))), ((ad 10), .inl (cA 0, 30, .inl (M_160 10))), ((ad 11), .inr (13, [.int (M_160 11 0), .ref (ad 14), .int (M_160 11 2)])), ((ad 12), .inl (cA 0, 0, .inl (M_160 12))), (q175, .inr (11, [.int p1, .int p2, .int p3, .int p4, .ref (ad 13), .ref (ad 13)])), (q52_7_7_20_187, .inl (cA 4, 10, .inr (.inr (.inr (.inr (fun i => if i = 0 then some q175 else none)))))), ((ad 5), .inr (13, [.int ((M_160 5 0) + 1), .ref q52_7_7_20_187, .int (0 + 1)]))]) H := hP
      replace hD : va_D (rt_fr ad s.heap.size) (([] : va_W) ++ [((ad 0), .inr (12, [.int (M_160 0 0), .ref (ad 1), .ref (ad 6), .ref (ad 12), .int (M_160 0 4)])), ((ad 1), .inr (8, [.ref (ad 2), .ref (ad 5)])), ((ad 2), .inr (13, [.int (M_160 2 0), .ref (ad 3), .int (M_160 2 2)])), ((ad 3), .inl (cA 4, 10, .inr (.inr (.inr (.inr (fun i => if i = 0 then some (ad 4) else none)))))), ((ad 4), .inr (10, [.int (M_160 4 0), .int (M_160 4 1), .int (M_160 4 2), .ref (ad 13), .ref (ad 13)])), ((ad 6), .inr (9, [.int (M_160 6 0), .int (M_160 6 1), .ref (ad 7), .ref (ad 8), .ref (ad 9), .ref (ad 10), .ref (ad 11), .int (M_160 6 7), .int (M_160 6 8), .int (M_160 6 9), .ref (ad 0)])), ((ad 7), .inl (cA 0, 20, .inl (M_160 7))), ((ad 8), .inl (cA 0, 20, .inl (M_160 8))), ((ad 9), .inl (cA 0, 4, .inl (M_160 9))), ((ad 10), .inl (cA 0, 30, .inl (M_160 10))), ((ad 11), .inr (13, [.int (M_160 11 0), .ref (ad 14), .int (M_160 11 2)])), ((ad 12), .inl (cA 0, 0, .inl (M_160 12))), (q175, .inr (11, [.int p1, .int p2, .int p3, .int p4, .ref (ad 13), .ref (ad 13)])), (q52_7_7_20_187, .inl (cA 4, 10, .inr (.inr (.inr (.inr (fun i => if i = 0 then some q175 else none)))))), ((ad 5), .inr (13, [.int ((M_160 5 0) + 1), .ref q52_7_7_20_187, .int (0 + 1)]))]) := hD
      refine W.widen (k := 2) (n := 16) (Nat.le_of_ble_eq_true rfl) (Nat.le_of_ble_eq_true rfl) ?_
      refine lv_iconst (v := 1) hx hb dX12_addTransition_201 (by decide) ?_
      refine lv_isub hx hb dX12_addTransition_202 ?_
      exact W.iret (v := ((0 + 1) - 1)) hx hb hr (fun t ht hW => ⟨⟨_, M_160, rfl, hw, by unfold rt_B0; rw [ht]; exact hP.sub [0] rfl⟩, hS.F ht⟩) hS.2.2 dX12_addTransition_203
    · replace hw := hw.2 hc163
      refine lv_iconst (v := 0) hx hb dX12_addTransition_166 (by decide) ?_
      refine W.widen (k := 2) (n := 16) (Nat.le_of_ble_eq_true rfl) (Nat.le_of_ble_eq_true rfl) ?_
      exact W.iret (v := 0) hx hb hr (fun t ht hW => ⟨⟨0, M_160, rfl, hw, by unfold rt_B0; rw [ht]; exact hP.sub [0] rfl⟩, hS.F ht⟩) hS.2.2 dX12_addTransition_167
  have J153 : ∀ (M : pt_M) (H : Heap) (locs : List Loc) (ls : Array Slot), wjX12_addTransition_153 p1 p2 p3 p4 Q M → va_P D pt_cl (rt_W cA ad M) H → va_S (rt_fr ad s.heap.size) s.heap H locs → lv_has ls 6 [(0, .ref (ad 0)), (1, .int p1), (2, .int p2), (3, .int p3), (4, .int p4)] → W p l e (headSpec (Cond.code yX12_addTransition cX12_addTransition 6 (some .int) :: lw_all) ({ frames := 5, cells := 2, slots := 16, locals := 108 } : Room)).room s m ([.ref (ad 0), .int p1, .int p2, .int p3, .int p4] : List Value).toArray below meth c H locs 0 0 (MQ below (va_Qi Q (rt_B0 D cA ad) (rt_fr ad s.heap.size)) ([.ref (ad 0), .int p1, .int p2, .int p3, .int p4] : List Value).toArray s 2 16 (rt_fr ad s.heap.size)) (F0 m 153 ls []) := by
    intro M H locs ls hw hP hS hl
    unfold wjX12_addTransition_153 at hw
    refine lv_iconst (v := 0) hx hb dX12_addTransition_153 (by decide) ?_
    exact J154 0 M _ _ _ hw hP hS (lv_sub hl [0, 1, 2, 3, 4] rfl)
  have J149 : ∀ (M : pt_M) (H : Heap) (locs : List Loc) (ls : Array Slot), wjX12_addTransition_149 p1 p2 p3 p4 Q M → va_P D pt_cl (rt_W cA ad M) H → va_S (rt_fr ad s.heap.size) s.heap H locs → lv_has ls 6 [(0, .ref (ad 0)), (1, .int p1), (2, .int p2), (3, .int p3), (4, .int p4)] → W p l e (headSpec (Cond.code yX12_addTransition cX12_addTransition 6 (some .int) :: lw_all) ({ frames := 5, cells := 2, slots := 16, locals := 108 } : Room)).room s m ([.ref (ad 0), .int p1, .int p2, .int p3, .int p4] : List Value).toArray below meth c H locs 0 0 (MQ below (va_Qi Q (rt_B0 D cA ad) (rt_fr ad s.heap.size)) ([.ref (ad 0), .int p1, .int p2, .int p3, .int p4] : List Value).toArray s 2 16 (rt_fr ad s.heap.size)) (F0 m 149 ls []) := by
    intro M H locs ls hw hP hS hl
    unfold wjX12_addTransition_149 at hw
    refine lv_iconst (v := 1) hx hb dX12_addTransition_149 (by decide) ?_
    refine lv_goto (tgt := 154) hx hb dX12_addTransition_150 (by decide) ?_
    exact J154 1 M _ _ _ hw hP hS (lv_sub hl [0, 1, 2, 3, 4] rfl)
  have J134 : ∀ (M : pt_M) (H : Heap) (locs : List Loc) (ls : Array Slot), wjX12_addTransition_134 p1 p2 p3 p4 Q M → va_P D pt_cl (rt_W cA ad M) H → va_S (rt_fr ad s.heap.size) s.heap H locs → lv_has ls 6 [(0, .ref (ad 0)), (1, .int p1), (2, .int p2), (3, .int p3), (4, .int p4)] → W p l e (headSpec (Cond.code yX12_addTransition cX12_addTransition 6 (some .int) :: lw_all) ({ frames := 5, cells := 2, slots := 16, locals := 108 } : Room)).room s m ([.ref (ad 0), .int p1, .int p2, .int p3, .int p4] : List Value).toArray below meth c H locs 0 0 (MQ below (va_Qi Q (rt_B0 D cA ad) (rt_fr ad s.heap.size)) ([.ref (ad 0), .int p1, .int p2, .int p3, .int p4] : List Value).toArray s 2 16 (rt_fr ad s.heap.size)) (F0 m 134 ls []) := by
    intro M H locs ls hw hP hS hl
    unfold wjX12_addTransition_134 at hw
    refine lv_iload hx hb dX12_addTransition_134 (lv_at hl 4 rfl) ?_
    refine lv_if_eq (tgt := 149) hx hb dX12_addTransition_136 (by decide) (fun hc136 => ?_) (fun hc136 => ?_)
    · replace hw := hw.1 hc136
      exact J149 M _ _ _ hw hP hS (lv_sub hl [0, 1, 2, 3, 4] rfl)
    · replace hw := hw.2 hc136
      refine lv_iload_n hx hb dX12_addTransition_139 rfl (lv_at hl 1 rfl) ?_
      refine lv_if_ne (tgt := 153) hx hb dX12_addTransition_140 (by decide) (fun hc140 => ?_) (fun hc140 => ?_)
      · replace hw := hw.1 hc140
        exact J153 M _ _ _ hw hP hS (lv_sub hl [0, 1, 2, 3, 4] rfl)
      · replace hw := hw.2 hc140
        refine lv_iload hx hb dX12_addTransition_143 (lv_at hl 4 rfl) ?_
        refine lv_iconst (v := (-1)) hx hb dX12_addTransition_145 (by decide) ?_
        refine lv_icmp_eq (tgt := 153) hx hb dX12_addTransition_146 (by decide) (fun hc146 => ?_) (fun hc146 => ?_)
        · replace hw := hw.1 hc146
          exact J153 M _ _ _ hw hP hS (lv_sub hl [0, 1, 2, 3, 4] rfl)
        · replace hw := hw.2 hc146
          exact J149 M _ _ _ hw hP hS (lv_sub hl [0, 1, 2, 3, 4] rfl)
  have J119 : ∀ (M : pt_M) (H : Heap) (locs : List Loc) (ls : Array Slot), wjX12_addTransition_119 p1 p2 p3 p4 Q M → va_P D pt_cl (rt_W cA ad M) H → va_S (rt_fr ad s.heap.size) s.heap H locs → lv_has ls 6 [(0, .ref (ad 0)), (1, .int p1), (2, .int p2), (3, .int p3), (4, .int p4)] → W p l e (headSpec (Cond.code yX12_addTransition cX12_addTransition 6 (some .int) :: lw_all) ({ frames := 5, cells := 2, slots := 16, locals := 108 } : Room)).room s m ([.ref (ad 0), .int p1, .int p2, .int p3, .int p4] : List Value).toArray below meth c H locs 0 0 (MQ below (va_Qi Q (rt_B0 D cA ad) (rt_fr ad s.heap.size)) ([.ref (ad 0), .int p1, .int p2, .int p3, .int p4] : List Value).toArray s 2 16 (rt_fr ad s.heap.size)) (F0 m 119 ls []) := by
    intro M H locs ls hw hP hS hl
    unfold wjX12_addTransition_119 at hw
    refine lv_iload_n hx hb dX12_addTransition_119 rfl (lv_at hl 2 rfl) ?_
    refine lv_iconst (v := 1) hx hb dX12_addTransition_120 (by decide) ?_
    refine lv_icmp_ne (tgt := 134) hx hb dX12_addTransition_121 (by decide) (fun hc121 => ?_) (fun hc121 => ?_)
    · replace hw := hw.1 hc121
      exact J134 M _ _ _ hw hP hS (lv_sub hl [0, 1, 2, 3, 4] rfl)
    · replace hw := hw.2 hc121
      refine lv_iload_n hx hb dX12_addTransition_124 rfl (lv_at hl 3 rfl) ?_
      refine lv_iconst (v := 1) hx hb dX12_addTransition_125 (by decide) ?_
      refine lv_bipush (v := 50) hx hb dX12_addTransition_126 (by decide) ?_
      refine rt_calli (rt_runS (n := 3) (As := [.int p3, .int 1, .int 50]) (rest := []) F hP hN hS (rt_frs hS.1) (mtX12_isIn l D cA ad hI _ p3 1 50 M _ hw) kw_1182 kw_1180 kw_60 kw_1181 ⟨by decide, by decide, by decide +kernel⟩ ⟨rfl, rfl, Nat.le_of_ble_eq_true rfl, Nat.le_of_ble_eq_true rfl⟩ rfl hl.1 rfl (Nat.le_of_ble_eq_true rfl) dX12_addTransition_128 ⟨Nat.zero_le _, Nat.zero_le _⟩) hS (fun _ h => h) (fun r_128 M_128 H locs hw hP hS _ _ => ?_)
      refine lv_if_eq (tgt := 149) hx hb dX12_addTransition_131 (by decide) (fun hc131 => ?_) (fun hc131 => ?_)
      · replace hw := hw.1 hc131
        exact J149 M_128 _ _ _ hw hP hS (lv_sub hl [0, 1, 2, 3, 4] rfl)
      · replace hw := hw.2 hc131
        exact J134 M_128 _ _ _ hw hP hS (lv_sub hl [0, 1, 2, 3, 4] rfl)
  have J74 : ∀ (M : pt_M) (H : Heap) (locs : List Loc) (ls : Array Slot), wjX12_addTransition_74 p1 p2 p3 p4 Q M → va_P D pt_cl (rt_W cA ad M) H → va_S (rt_fr ad s.heap.size) s.heap H locs → lv_has ls 6 [] → W p l e (headSpec (Cond.code yX12_addTransition cX12_addTransition 6 (some .int) :: lw_all) ({ frames := 5, cells := 2, slots := 16, locals := 108 } : Room)).room s m ([.ref (ad 0), .int p1, .int p2, .int p3, .int p4] : List Value).toArray below meth c H locs 0 0 (MQ below (va_Qi Q (rt_B0 D cA ad) (rt_fr ad s.heap.size)) ([.ref (ad 0), .int p1, .int p2, .int p3, .int p4] : List Value).toArray s 2 16 (rt_fr ad s.heap.size)) (F0 m 74 ls []) := by
    intro M H locs ls hw hP hS hl
    unfold wjX12_addTransition_74 at hw
    refine lv_iconst (v := 0) hx hb dX12_addTransition_74 (by decide) ?_
    refine W.widen (k := 2) (n := 16) (Nat.le_of_ble_eq_true rfl) (Nat.le_of_ble_eq_true rfl) ?_
    exact W.iret (v := 0) hx hb hr (fun t ht hW => ⟨⟨0, M, rfl, hw, by unfold rt_B0; rw [ht]; exact hP.sub [0] rfl⟩, hS.F ht⟩) hS.2.2 dX12_addTransition_75
  have J67 : ∀ (xs1 : Int32) (M : pt_M) (H : Heap) (locs : List Loc) (ls : Array Slot), wjX12_addTransition_67 p1 p2 p3 p4 Q xs1 M → va_P D pt_cl (rt_W cA ad M) H → va_S (rt_fr ad s.heap.size) s.heap H locs → lv_has ls 6 [(0, .ref (ad 0)), (1, .int p1), (2, .int p2), (3, .int p3), (4, .int p4)] → W p l e (headSpec (Cond.code yX12_addTransition cX12_addTransition 6 (some .int) :: lw_all) ({ frames := 5, cells := 2, slots := 16, locals := 108 } : Room)).room s m ([.ref (ad 0), .int p1, .int p2, .int p3, .int p4] : List Value).toArray below meth c H locs 0 0 (MQ below (va_Qi Q (rt_B0 D cA ad) (rt_fr ad s.heap.size)) ([.ref (ad 0), .int p1, .int p2, .int p3, .int p4] : List Value).toArray s 2 16 (rt_fr ad s.heap.size)) (F0 m 67 ls [.int xs1, .ref (ad 0)]) := by
    intro xs1 M H locs ls hw hP hS hl
    unfold wjX12_addTransition_67 at hw
    refine lv_iconst (v := 2) hx hb dX12_addTransition_67 (by decide) ?_
    refine rt_calli (rt_runV (n := 2) (As := [.int xs1, .int 2]) (rest := []) F hP hN hS (rt_frs hS.1) (rt_c12 _ rt_k0) (rt_l12 rt_k0) rfl (mtX12_refuse l D cA ad hI _ xs1 2 M _ hw) kw_1175 kw_1172 kw_60 kw_1174 kw_29 ⟨by decide, by decide, by decide +kernel⟩ ⟨rfl, rfl, Nat.le_of_ble_eq_true rfl, Nat.le_of_ble_eq_true rfl⟩ rfl hl.1 rfl (Nat.le_of_ble_eq_true rfl) dX12_addTransition_68 ⟨Nat.zero_le _, Nat.zero_le _⟩) hS (fun _ h => h) (fun r_68 M_68 H locs hw hP hS _ _ => ?_)
    refine lv_if_eq (tgt := 76) hx hb dX12_addTransition_71 (by decide) (fun hc71 => ?_) (fun hc71 => ?_)
    · replace hw := hw.1 hc71
      refine lv_aload_n hx hb dX12_addTransition_76 rfl (lv_at hl 0 rfl) ?_
      refine rt_get F hP (rt_c12 _ rt_k0) (rt_l12 rt_k0) inX12 rfl 1 (by decide) kw_1140 rfl rfl dX12_addTransition_77 ?_
      refine rt_get F hP (rt_c8 _ rt_k1) (rt_l8 rt_k1) inX8 rfl 0 (by decide) kw_985 rfl rfl dX12_addTransition_80 ?_
      refine lv_iload_n hx hb dX12_addTransition_83 rfl (lv_at hl 1 rfl) ?_
      refine rt_call4 (rt_runV (n := 1) (As := [.int p1]) (rest := []) F hP hN hS (rt_frs hS.1) (rt_c13 _ rt_k2) (rt_l13 rt_k2) rfl (mtJx4a65c_get_915e3 l D cA ad hI _ p1 M_68 _ hw) kw_1186 kw_1183 kw_64 kw_1184 kw_1185 ⟨by decide, by decide, by decide +kernel⟩ ⟨rfl, rfl, (Nat.le_of_ble_eq_true rfl), (Nat.le_of_ble_eq_true rfl)⟩ rfl hl.1 rfl (Nat.le_of_ble_eq_true rfl) dX12_addTransition_84 ⟨Nat.zero_le _, Nat.zero_le _⟩) hS (fun _ h => h) (fun M_84 H locs hw hP hS _ _ => ?_)
      refine rt_cast4 F hP kw_1046 dX12_addTransition_87 ?_
      refine rt_calli (rt_runV (n := 0) (As := []) (rest := []) F hP hN hS (rt_frs hS.1) (rt_c10 _ rt_k4) (rt_l10 rt_k4) rfl (mtX10_isOpen l D cA ad hI _ M_84 _ hw) kw_1200 kw_1197 kw_66 kw_1198 kw_1199 ⟨by decide, by decide, by decide +kernel⟩ ⟨rfl, rfl, Nat.le_of_ble_eq_true rfl, Nat.le_of_ble_eq_true rfl⟩ rfl hl.1 rfl (Nat.le_of_ble_eq_true rfl) dX12_addTransition_90 ⟨Nat.zero_le _, Nat.zero_le _⟩) hS (fun _ h => h) (fun r_90 M_90 H locs hw hP hS _ _ => ?_)
      refine lv_if_eq (tgt := 149) hx hb dX12_addTransition_93 (by decide) (fun hc93 => ?_) (fun hc93 => ?_)
      · replace hw := hw.1 hc93
        exact J149 M_90 _ _ _ hw hP hS (lv_sub hl [0, 1, 2, 3, 4] rfl)
      · replace hw := hw.2 hc93
        refine lv_iload_n hx hb dX12_addTransition_96 rfl (lv_at hl 2 rfl) ?_
        refine lv_iconst (v := 0) hx hb dX12_addTransition_97 (by decide) ?_
        refine lv_iconst (v := 3) hx hb dX12_addTransition_98 (by decide) ?_
        refine rt_calli (rt_runS (n := 3) (As := [.int p2, .int 0, .int 3]) (rest := []) F hP hN hS (rt_frs hS.1) (mtX12_isIn l D cA ad hI _ p2 0 3 M_90 _ hw) kw_1182 kw_1180 kw_60 kw_1181 ⟨by decide, by decide, by decide +kernel⟩ ⟨rfl, rfl, Nat.le_of_ble_eq_true rfl, Nat.le_of_ble_eq_true rfl⟩ rfl hl.1 rfl (Nat.le_of_ble_eq_true rfl) dX12_addTransition_99 ⟨Nat.zero_le _, Nat.zero_le _⟩) hS (fun _ h => h) (fun r_99 M_99 H locs hw hP hS _ _ => ?_)
        refine lv_if_eq (tgt := 149) hx hb dX12_addTransition_102 (by decide) (fun hc102 => ?_) (fun hc102 => ?_)
        · replace hw := hw.1 hc102
          exact J149 M_99 _ _ _ hw hP hS (lv_sub hl [0, 1, 2, 3, 4] rfl)
        · replace hw := hw.2 hc102
          refine lv_iload_n hx hb dX12_addTransition_105 rfl (lv_at hl 2 rfl) ?_
          refine lv_if_ne (tgt := 119) hx hb dX12_addTransition_106 (by decide) (fun hc106 => ?_) (fun hc106 => ?_)
          · replace hw := hw.1 hc106
            exact J119 M_99 _ _ _ hw hP hS (lv_sub hl [0, 1, 2, 3, 4] rfl)
          · replace hw := hw.2 hc106
            refine lv_iload_n hx hb dX12_addTransition_109 rfl (lv_at hl 3 rfl) ?_
            refine lv_iconst (v := 0) hx hb dX12_addTransition_110 (by decide) ?_
            refine lv_bipush (v := 9) hx hb dX12_addTransition_111 (by decide) ?_
            refine rt_calli (rt_runS (n := 3) (As := [.int p3, .int 0, .int 9]) (rest := []) F hP hN hS (rt_frs hS.1) (mtX12_isIn l D cA ad hI _ p3 0 9 M_99 _ hw) kw_1182 kw_1180 kw_60 kw_1181 ⟨by decide, by decide, by decide +kernel⟩ ⟨rfl, rfl, Nat.le_of_ble_eq_true rfl, Nat.le_of_ble_eq_true rfl⟩ rfl hl.1 rfl (Nat.le_of_ble_eq_true rfl) dX12_addTransition_113 ⟨Nat.zero_le _, Nat.zero_le _⟩) hS (fun _ h => h) (fun r_113 M_113 H locs hw hP hS _ _ => ?_)
            refine lv_if_eq (tgt := 149) hx hb dX12_addTransition_116 (by decide) (fun hc116 => ?_) (fun hc116 => ?_)
            · replace hw := hw.1 hc116
              exact J149 M_113 _ _ _ hw hP hS (lv_sub hl [0, 1, 2, 3, 4] rfl)
            · replace hw := hw.2 hc116
              exact J119 M_113 _ _ _ hw hP hS (lv_sub hl [0, 1, 2, 3, 4] rfl)
    · replace hw := hw.2 hc71
      exact J74 M_68 _ _ _ hw hP hS (lv_sub hl [] rfl)
  have J66 : ∀ (M : pt_M) (H : Heap) (locs : List Loc) (ls : Array Slot), wjX12_addTransition_66 p1 p2 p3 p4 Q M → va_P D pt_cl (rt_W cA ad M) H → va_S (rt_fr ad s.heap.size) s.heap H locs → lv_has ls 6 [(0, .ref (ad 0)), (1, .int p1), (2, .int p2), (3, .int p3), (4, .int p4)] → W p l e (headSpec (Cond.code yX12_addTransition cX12_addTransition 6 (some .int) :: lw_all) ({ frames := 5, cells := 2, slots := 16, locals := 108 } : Room)).room s m ([.ref (ad 0), .int p1, .int p2, .int p3, .int p4] : List Value).toArray below meth c H locs 0 0 (MQ below (va_Qi Q (rt_B0 D cA ad) (rt_fr ad s.heap.size)) ([.ref (ad 0), .int p1, .int p2, .int p3, .int p4] : List Value).toArray s 2 16 (rt_fr ad s.heap.size)) (F0 m 66 ls [.ref (ad 0)]) := by
    intro M H locs ls hw hP hS hl
    unfold wjX12_addTransition_66 at hw
    refine lv_iconst (v := 0) hx hb dX12_addTransition_66 (by decide) ?_
    exact J67 0 M _ _ _ hw hP hS (lv_sub hl [0, 1, 2, 3, 4] rfl)
  have J62 : ∀ (M : pt_M) (H : Heap) (locs : List Loc) (ls : Array Slot), wjX12_addTransition_62 p1 p2 p3 p4 Q M → va_P D pt_cl (rt_W cA ad M) H → va_S (rt_fr ad s.heap.size) s.heap H locs → lv_has ls 6 [(0, .ref (ad 0)), (1, .int p1), (2, .int p2), (3, .int p3), (4, .int p4)] → W p l e (headSpec (Cond.code yX12_addTransition cX12_addTransition 6 (some .int) :: lw_all) ({ frames := 5, cells := 2, slots := 16, locals := 108 } : Room)).room s m ([.ref (ad 0), .int p1, .int p2, .int p3, .int p4] : List Value).toArray below meth c H locs 0 0 (MQ below (va_Qi Q (rt_B0 D cA ad) (rt_fr ad s.heap.size)) ([.ref (ad 0), .int p1, .int p2, .int p3, .int p4] : List Value).toArray s 2 16 (rt_fr ad s.heap.size)) (F0 m 62 ls [.ref (ad 0)]) := by
    intro M H locs ls hw hP hS hl
    unfold wjX12_addTransition_62 at hw
    refine lv_iconst (v := 1) hx hb dX12_addTransition_62 (by decide) ?_
    refine lv_goto (tgt := 67) hx hb dX12_addTransition_63 (by decide) ?_
    exact J67 1 M _ _ _ hw hP hS (lv_sub hl [0, 1, 2, 3, 4] rfl)
  have J31 : ∀ (xs1 : Int32) (M : pt_M) (H : Heap) (locs : List Loc) (ls : Array Slot), wjX12_addTransition_31 p1 p2 p3 p4 Q xs1 M → va_P D pt_cl (rt_W cA ad M) H → va_S (rt_fr ad s.heap.size) s.heap H locs → lv_has ls 6 [(0, .ref (ad 0)), (1, .int p1), (2, .int p2), (3, .int p3), (4, .int p4)] → W p l e (headSpec (Cond.code yX12_addTransition cX12_addTransition 6 (some .int) :: lw_all) ({ frames := 5, cells := 2, slots := 16, locals := 108 } : Room)).room s m ([.ref (ad 0), .int p1, .int p2, .int p3, .int p4] : List Value).toArray below meth c H locs 0 0 (MQ below (va_Qi Q (rt_B0 D cA ad) (rt_fr ad s.heap.size)) ([.ref (ad 0), .int p1, .int p2, .int p3, .int p4] : List Value).toArray s 2 16 (rt_fr ad s.heap.size)) (F0 m 31 ls [.int xs1, .ref (ad 0)]) := by
    intro xs1 M H locs ls hw hP hS hl
    unfold wjX12_addTransition_31 at hw
    refine lv_iconst (v := 1) hx hb dX12_addTransition_31 (by decide) ?_
    refine rt_calli (rt_runV (n := 2) (As := [.int xs1, .int 1]) (rest := []) F hP hN hS (rt_frs hS.1) (rt_c12 _ rt_k0) (rt_l12 rt_k0) rfl (mtX12_start l D cA ad hI _ xs1 1 M _ hw) kw_1171 kw_1168 kw_60 kw_1170 kw_28 ⟨by decide, by decide, by decide +kernel⟩ ⟨rfl, rfl, Nat.le_of_ble_eq_true rfl, Nat.le_of_ble_eq_true rfl⟩ rfl hl.1 rfl (Nat.le_of_ble_eq_true rfl) dX12_addTransition_32 ⟨Nat.zero_le _, Nat.zero_le _⟩) hS (fun _ h => h) (fun r_32 M_32 H locs hw hP hS _ _ => ?_)
    refine lv_if_ne (tgt := 74) hx hb dX12_addTransition_35 (by decide) (fun hc35 => ?_) (fun hc35 => ?_)
    · replace hw := hw.1 hc35
      exact J74 M_32 _ _ _ hw hP hS (lv_sub hl [] rfl)
    · replace hw := hw.2 hc35
      refine lv_aload_n hx hb dX12_addTransition_38 rfl (lv_at hl 0 rfl) ?_
      refine lv_aload_n hx hb dX12_addTransition_39 rfl (lv_at hl 0 rfl) ?_
      refine lv_iload_n hx hb dX12_addTransition_40 rfl (lv_at hl 1 rfl) ?_
      refine rt_calli (rt_runV (n := 1) (As := [.int p1]) (rest := [.ref (ad 0)]) F hP hN hS (rt_frs hS.1) (rt_c12 _ rt_k0) (rt_l12 rt_k0) rfl (mtX12_isNoState l D cA ad hI _ p1 M_32 _ hw) kw_1179 kw_1176 kw_60 kw_1178 kw_30 ⟨by decide, by decide, by decide +kernel⟩ ⟨rfl, rfl, Nat.le_of_ble_eq_true rfl, Nat.le_of_ble_eq_true rfl⟩ rfl hl.1 rfl (Nat.le_of_ble_eq_true rfl) dX12_addTransition_41 ⟨Nat.zero_le _, Nat.zero_le _⟩) hS (fun _ h => h) (fun r_41 M_41 H locs hw hP hS _ _ => ?_)
      refine lv_if_ne (tgt := 62) hx hb dX12_addTransition_44 (by decide) (fun hc44 => ?_) (fun hc44 => ?_)
      · replace hw := hw.1 hc44
        exact J62 M_41 _ _ _ hw hP hS (lv_sub hl [0, 1, 2, 3, 4] rfl)
      · replace hw := hw.2 hc44
        refine lv_iload hx hb dX12_addTransition_47 (lv_at hl 4 rfl) ?_
        refine lv_iconst (v := (-1)) hx hb dX12_addTransition_49 (by decide) ?_
        refine lv_icmp_eq (tgt := 66) hx hb dX12_addTransition_50 (by decide) (fun hc50 => ?_) (fun hc50 => ?_)
        · replace hw := hw.1 hc50
          exact J66 M_41 _ _ _ hw hP hS (lv_sub hl [0, 1, 2, 3, 4] rfl)
        · replace hw := hw.2 hc50
          refine lv_aload_n hx hb dX12_addTransition_53 rfl (lv_at hl 0 rfl) ?_
          refine lv_iload hx hb dX12_addTransition_54 (lv_at hl 4 rfl) ?_
          refine rt_calli (rt_runV (n := 1) (As := [.int p4]) (rest := [.ref (ad 0)]) F hP hN hS (rt_frs hS.1) (rt_c12 _ rt_k0) (rt_l12 rt_k0) rfl (mtX12_isNoState l D cA ad hI _ p4 M_41 _ hw) kw_1179 kw_1176 kw_60 kw_1178 kw_30 ⟨by decide, by decide, by decide +kernel⟩ ⟨rfl, rfl, Nat.le_of_ble_eq_true rfl, Nat.le_of_ble_eq_true rfl⟩ rfl hl.1 rfl (Nat.le_of_ble_eq_true rfl) dX12_addTransition_56 ⟨Nat.zero_le _, Nat.zero_le _⟩) hS (fun _ h => h) (fun r_56 M_56 H locs hw hP hS _ _ => ?_)
          refine lv_if_eq (tgt := 66) hx hb dX12_addTransition_59 (by decide) (fun hc59 => ?_) (fun hc59 => ?_)
          · replace hw := hw.1 hc59
            exact J66 M_56 _ _ _ hw hP hS (lv_sub hl [0, 1, 2, 3, 4] rfl)
          · replace hw := hw.2 hc59
            exact J62 M_56 _ _ _ hw hP hS (lv_sub hl [0, 1, 2, 3, 4] rfl)
  have J26 : ∀ (M : pt_M) (H : Heap) (locs : List Loc) (ls : Array Slot), wjX12_addTransition_26 p1 p2 p3 p4 Q M → va_P D pt_cl (rt_W cA ad M) H → va_S (rt_fr ad s.heap.size) s.heap H locs → lv_has ls 6 [(0, .ref (ad 0)), (1, .int p1), (2, .int p2), (3, .int p3), (4, .int p4)] → W p l e (headSpec (Cond.code yX12_addTransition cX12_addTransition 6 (some .int) :: lw_all) ({ frames := 5, cells := 2, slots := 16, locals := 108 } : Room)).room s m ([.ref (ad 0), .int p1, .int p2, .int p3, .int p4] : List Value).toArray below meth c H locs 0 0 (MQ below (va_Qi Q (rt_B0 D cA ad) (rt_fr ad s.heap.size)) ([.ref (ad 0), .int p1, .int p2, .int p3, .int p4] : List Value).toArray s 2 16 (rt_fr ad s.heap.size)) (F0 m 26 ls [.ref (ad 0)]) := by
    intro M H locs ls hw hP hS hl
    unfold wjX12_addTransition_26 at hw
    refine lv_iconst (v := 1) hx hb dX12_addTransition_26 (by decide) ?_
    refine lv_goto (tgt := 31) hx hb dX12_addTransition_27 (by decide) ?_
    exact J31 1 M _ _ _ hw hP hS (lv_sub hl [0, 1, 2, 3, 4] rfl)
  unfold wpX12_addTransition at hw
  refine lv_aload_n hx hb dX12_addTransition_0 rfl (lv_at hl 0 rfl) ?_
  refine lv_aload_n hx hb dX12_addTransition_1 rfl (lv_at hl 0 rfl) ?_
  refine rt_get F hP (rt_c12 _ rt_k0) (rt_l12 rt_k0) inX12 rfl 2 (by decide) kw_1142 rfl rfl dX12_addTransition_2 ?_
  refine rt_get F hP (rt_c9 _ rt_k6) (rt_l9 rt_k6) inX9 rfl 0 (by decide) kw_1004 rfl rfl dX12_addTransition_5 ?_
  refine lv_if_ne (tgt := 26) hx hb dX12_addTransition_8 (by decide) (fun hc8 => ?_) (fun hc8 => ?_)
  · replace hw := hw.1 hc8
    exact J26 M _ _ _ hw hP hS (lv_sub hl [0, 1, 2, 3, 4] rfl)
  · replace hw := hw.2 hc8
    refine lv_aload_n hx hb dX12_addTransition_11 rfl (lv_at hl 0 rfl) ?_
    refine rt_get F hP (rt_c12 _ rt_k0) (rt_l12 rt_k0) inX12 rfl 1 (by decide) kw_1140 rfl rfl dX12_addTransition_12 ?_
    refine rt_get F hP (rt_c8 _ rt_k1) (rt_l8 rt_k1) inX8 rfl 1 (by decide) kw_988 rfl rfl dX12_addTransition_15 ?_
    refine rt_calli (rt_runV (n := 0) (As := []) (rest := [.ref (ad 0)]) F hP hN hS (rt_frs hS.1) (rt_c13 _ rt_k5) (rt_l13 rt_k5) rfl (mtJx4a65c_size_8abf5 l D cA ad hI _ 5 rt_k5 M _ hw) kw_1167 kw_1164 kw_64 kw_1165 kw_1166 ⟨by decide, by decide, by decide +kernel⟩ ⟨rfl, rfl, Nat.le_of_ble_eq_true rfl, Nat.le_of_ble_eq_true rfl⟩ rfl hl.1 rfl (Nat.le_of_ble_eq_true rfl) dX12_addTransition_18 ⟨Nat.zero_le _, Nat.zero_le _⟩) hS (fun _ h => h) (fun r_18 M_18 H locs hw hP hS _ _ => ?_)
    refine lv_bipush (v := 30) hx hb dX12_addTransition_21 (by decide) ?_
    refine lv_icmp_ne (tgt := 30) hx hb dX12_addTransition_23 (by decide) (fun hc23 => ?_) (fun hc23 => ?_)
    · replace hw := hw.1 hc23
      refine lv_iconst (v := 0) hx hb dX12_addTransition_30 (by decide) ?_
      exact J31 0 M_18 _ _ _ hw hP hS (lv_sub hl [0, 1, 2, 3, 4] rfl)
    · replace hw := hw.2 hc23
      exact J26 M_18 _ _ _ hw hP hS (lv_sub hl [0, 1, 2, 3, 4] rfl)
