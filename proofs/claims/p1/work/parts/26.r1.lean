-- ===== X8_kind
def wpX8_kind (p1 : Int32) (M : pt_M) (Q : Int32 → pt_M → Prop) : Prop :=
  wpJx4a65c_get_915e3 p1 M (fun (M_5 : pt_M) => Q (M_5 4 1) M_5)
set_option maxHeartbeats 4000000 in
set_option maxRecDepth 100000 in
theorem mtX8_kind (l : Launch) (D : va_G) (cA : Nat → ClassId) (ad : Nat → Nat) (hI : rt_I ad) (sz : Nat) (p1 : Int32) (M : pt_M) (Q : Int32 → pt_M → Prop) (hw : wpX8_kind p1 M Q) : Met l yX8_kind (Cond.code yX8_kind cX8_kind 2 (some .int) :: lw_all) ({ frames := 3, cells := 0, slots := 0, locals := 64 } : Room) (va_Pc [.ref (ad 1), .int p1] (rt_P D cA ad sz M)) (va_Qi Q (rt_B D cA ad) (rt_fr ad sz)) 0 0 (rt_fr ad sz) := by
  refine Met.ofW (cc := cX8_kind) (maxL := 2) (ret := (some .int)) (by decide) rfl ?_
  intro p e s m args below meth c s₁ B hml hv
  obtain ⟨rfl, hsz, hP, hK, hN⟩ := hv
  have hx := B.exec
  have hb := B.bytes
  have hr := B.returns
  have hts0 := atoms_spec (ws := (Cond.code yX8_kind cX8_kind 2 (some .int) :: lw_all)) B.pre
  have hown : s.vm.findClass RX8 = some m.cls := findClass_of_methodNamed B.named
  have hlocks := B.notSynchronized
  subst hsz
  have F : pt_F p m c cX8_kind 2 s _ RX8 D cA := ⟨⟨hx, hb, hml, hown, fun w h => hts0 w (List.mem_cons_of_mem _ h)⟩, hK⟩
  have hD : ∀ M, va_D (rt_fr ad s.heap.size) (rt_W cA ad M) := rt_D hI (fun k h => Or.inl ⟨k, h, rfl⟩)
  have hS : va_S (rt_fr ad s.heap.size) s.heap s.heap [] := va_S.rf
  have hl := lv_entry ([.ref (ad 1), .int p1]) (n := 2) (Nat.le_of_ble_eq_true rfl)
  rw [lg_entry_eq]
  generalize (lg_sl ([.ref (ad 1), .int p1]) ++ List.replicate (2 - (lg_sl ([.ref (ad 1), .int p1])).length) Slot.unset).toArray = ls at hl ⊢
  have hl : lv_has ls 2 [(0, .ref (ad 1)), (1, .int p1)] := hl
  unfold wpX8_kind at hw
  refine lv_aload_n hx hb dX8_kind_0 rfl (lv_at hl 0 rfl) ?_
  refine rt_get F hP (rt_c8 _ rt_k1) (rt_l8 rt_k1) inX8 rfl 0 (by decide) kw_984 rfl rfl dX8_kind_1 ?_
  refine lv_iload_n hx hb dX8_kind_4 rfl (lv_at hl 1 rfl) ?_
  refine rt_call4 (rt_runV (n := 1) (As := [.int p1]) (rest := []) F hP hN hS (rt_frs hS.1) (rt_c13 _ rt_k2) (rt_l13 rt_k2) rfl (mtJx4a65c_get_915e3 l D cA ad hI _ p1 M _ hw) kw_1186 kw_1205 kw_64 kw_1184 kw_1185 ⟨by decide, by decide, by decide +kernel⟩ ⟨rfl, rfl, (Nat.le_of_ble_eq_true rfl), (Nat.le_of_ble_eq_true rfl)⟩ rfl hl.1 rfl (Nat.le_of_ble_eq_true rfl) dX8_kind_5 ⟨Nat.zero_le _, Nat.zero_le _⟩) hS (fun _ h => h) (fun M_5 H locs hw hP hS _ _ => ?_)
  refine rt_cast4 F hP kw_1206 dX8_kind_8 ?_
  refine rt_get F hP (rt_c10 _ rt_k4) (rt_l10 rt_k4) inX10 rfl 1 (by decide) kw_1058 rfl rfl dX8_kind_11 ?_
  exact W.iret (v := (M_5 4 1)) hx hb hr (fun t ht hW => ⟨⟨(M_5 4 1), M_5, rfl, hw, by unfold rt_B; rw [ht]; exact hP⟩, hS.F ht⟩) hS.2.2 dX8_kind_14
-- ===== X8_parts
def wjX8_parts_47 (p1 : Int32) (Q : Int32 → pt_M → Prop) (R4 : Int32 → Int32 → pt_M → Prop) (x2 : Int32) (x3 : Int32) (M : pt_M) : Prop :=
  ∀ x3_47 : Int32, x3_47 = x3 + 1 → R4 x2 x3_47 M
def lbX8_parts_4 (p1 : Int32) (Q : Int32 → pt_M → Prop)  (R4 : Int32 → Int32 → pt_M → Prop) (x2 : Int32) (x3 : Int32) (M : pt_M) : Prop :=
  wpJx4a65c_size_8abf5 2 M (fun (r_9 : Int32) (M_9 : pt_M) => (r_9 ≤ x3 → Q x2 M_9) ∧ (¬ r_9 ≤ x3 → wpX8_parent x3 M_9 (fun (r_17 : Int32) (M_17 : pt_M) => (¬ r_17 = p1 → wjX8_parts_47 p1 Q R4 x2 x3 M_17) ∧ (r_17 = p1 → wpJx4a65c_get_915e3 x3 M_17 (fun (M_29 : pt_M) => wpX10_isMark M_29 (fun (r_35 : Int32) (M_35 : pt_M) => (¬ r_35 = 0 → wjX8_parts_47 p1 Q R4 x2 x3 M_35) ∧ (r_35 = 0 → ∀ x2_46 : Int32, x2_46 = (x2 ||| (1 <<< (x3 &&& 31))) → wjX8_parts_47 p1 Q R4 x2_46 x3 M_35)))))))
def lpX8_parts_4 (p1 : Int32) (Q : Int32 → pt_M → Prop)  : Nat → Int32 → Int32 → pt_M → Prop
  | 0 => fun _ _ _ => False
  | n + 1 => fun x2 x3 M => lbX8_parts_4 p1 Q (lpX8_parts_4 p1 Q n) x2 x3 M
def wpX8_parts (p1 : Int32) (M : pt_M) (Q : Int32 → pt_M → Prop) : Prop :=
  ∃ n : Nat, lpX8_parts_4 p1 Q n 0 0 M
set_option maxHeartbeats 4000000 in
set_option maxRecDepth 100000 in
theorem mtX8_parts (l : Launch) (D : va_G) (cA : Nat → ClassId) (ad : Nat → Nat) (hI : rt_I ad) (sz : Nat) (p1 : Int32) (M : pt_M) (Q : Int32 → pt_M → Prop) (hw : wpX8_parts p1 M Q) : Met l yX8_parts (Cond.code yX8_parts cX8_parts 4 (some .int) :: lw_all) ({ frames := 4, cells := 0, slots := 0, locals := 85 } : Room) (va_Pc [.ref (ad 1), .int p1] (rt_P D cA ad sz M)) (va_Qi Q (rt_B D cA ad) (rt_fr ad sz)) 0 0 (rt_fr ad sz) := by
  refine Met.ofW (cc := cX8_parts) (maxL := 4) (ret := (some .int)) (by decide) rfl ?_
  intro p e s m args below meth c s₁ B hml hv
  obtain ⟨rfl, hsz, hP, hK, hN⟩ := hv
  have hx := B.exec
  have hb := B.bytes
  have hr := B.returns
  have hts0 := atoms_spec (ws := (Cond.code yX8_parts cX8_parts 4 (some .int) :: lw_all)) B.pre
  have hown : s.vm.findClass RX8 = some m.cls := findClass_of_methodNamed B.named
  have hlocks := B.notSynchronized
  subst hsz
  have F : pt_F p m c cX8_parts 4 s _ RX8 D cA := ⟨⟨hx, hb, hml, hown, fun w h => hts0 w (List.mem_cons_of_mem _ h)⟩, hK⟩
  have hD : ∀ M, va_D (rt_fr ad s.heap.size) (rt_W cA ad M) := rt_D hI (fun k h => Or.inl ⟨k, h, rfl⟩)
  have hS : va_S (rt_fr ad s.heap.size) s.heap s.heap [] := va_S.rf
  have hl := lv_entry ([.ref (ad 1), .int p1]) (n := 4) (Nat.le_of_ble_eq_true rfl)
  rw [lg_entry_eq]
  generalize (lg_sl ([.ref (ad 1), .int p1]) ++ List.replicate (4 - (lg_sl ([.ref (ad 1), .int p1])).length) Slot.unset).toArray = ls at hl ⊢
  have hl : lv_has ls 4 [(0, .ref (ad 1)), (1, .int p1)] := hl
  have L4 : ∀ (n4 : Nat) (x2 : Int32) (x3 : Int32) (M : pt_M) (H : Heap) (locs : List Loc) (ls : Array Slot), lpX8_parts_4 p1 Q n4 x2 x3 M → va_P D pt_cl (rt_W cA ad M) H → va_S (rt_fr ad s.heap.size) s.heap H locs → lv_has ls 4 [(0, .ref (ad 1)), (1, .int p1), (2, .int x2), (3, .int x3)] → W p l e (headSpec (Cond.code yX8_parts cX8_parts 4 (some .int) :: lw_all) ({ frames := 4, cells := 0, slots := 0, locals := 85 } : Room)).room s m ([.ref (ad 1), .int p1] : List Value).toArray below meth c H locs 0 0 (MQ below (va_Qi Q (rt_B D cA ad) (rt_fr ad s.heap.size)) ([.ref (ad 1), .int p1] : List Value).toArray s 0 0 (rt_fr ad s.heap.size)) (F0 m 4 ls []) := by
    intro n4
    induction n4 with
    | zero => intro x2 x3 M H locs ls hw; exact hw.elim
    | succ n4 ih4 =>
      have J47 : ∀ (x2 : Int32) (x3 : Int32) (M : pt_M) (H : Heap) (locs : List Loc) (ls : Array Slot), wjX8_parts_47 p1 Q (lpX8_parts_4 p1 Q n4) x2 x3 M → va_P D pt_cl (rt_W cA ad M) H → va_S (rt_fr ad s.heap.size) s.heap H locs → lv_has ls 4 [(0, .ref (ad 1)), (1, .int p1), (2, .int x2), (3, .int x3)] → W p l e (headSpec (Cond.code yX8_parts cX8_parts 4 (some .int) :: lw_all) ({ frames := 4, cells := 0, slots := 0, locals := 85 } : Room)).room s m ([.ref (ad 1), .int p1] : List Value).toArray below meth c H locs 0 0 (MQ below (va_Qi Q (rt_B D cA ad) (rt_fr ad s.heap.size)) ([.ref (ad 1), .int p1] : List Value).toArray s 0 0 (rt_fr ad s.heap.size)) (F0 m 47 ls []) := by
        intro x2 x3 M H locs ls hw hP hS hl
        unfold wjX8_parts_47 at hw
        obtain ⟨x3_47, ex3_47⟩ : ∃ y : Int32, y = x3 + 1 := ⟨_, rfl⟩
        replace hw := hw x3_47 ex3_47
        refine lv_iinc (v := x3_47) (lv' := [(3, .int x3_47), (0, .ref (ad 1)), (1, .int p1), (2, .int x2)]) hx hb dX8_parts_47 hl (k := 3) rfl (by rw [ex3_47]; rfl) (by decide) rfl (fun ls hl => ?_)
        refine lv_goto (tgt := 4) hx hb dX8_parts_50 (by decide) ?_
        exact ih4 x2 x3_47 M _ _ _ hw hP hS (lv_sub hl [1, 2, 3, 0] rfl)
      intro x2 x3 M H locs ls hw hP hS hl
      replace hw : lbX8_parts_4 p1 Q (lpX8_parts_4 p1 Q n4) x2 x3 M := hw
      unfold lbX8_parts_4 at hw
      refine lv_iload_n hx hb dX8_parts_4 rfl (lv_at hl 3 rfl) ?_
      refine lv_aload_n hx hb dX8_parts_5 rfl (lv_at hl 0 rfl) ?_
      refine rt_get F hP (rt_c8 _ rt_k1) (rt_l8 rt_k1) inX8 rfl 0 (by decide) kw_984 rfl rfl dX8_parts_6 ?_
      refine rt_calli (rt_runV (n := 0) (As := []) (rest := [.int x3]) F hP hN hS (rt_frs hS.1) (rt_c13 _ rt_k2) (rt_l13 rt_k2) rfl (mtJx4a65c_size_8abf5 l D cA ad hI _ 2 rt_k2 M _ hw) kw_1167 kw_1215 kw_64 kw_1165 kw_1166 ⟨by decide, by decide, by decide +kernel⟩ ⟨rfl, rfl, Nat.le_of_ble_eq_true rfl, Nat.le_of_ble_eq_true rfl⟩ rfl hl.1 rfl (Nat.le_of_ble_eq_true rfl) dX8_parts_9 ⟨Nat.zero_le _, Nat.zero_le _⟩) hS (fun _ h => h) (fun r_9 M_9 H locs hw hP hS _ _ => ?_)
      refine lv_icmp_ge (tgt := 53) hx hb dX8_parts_12 (by decide) (fun hc12 => ?_) (fun hc12 => ?_)
      · replace hw := hw.1 hc12
        refine lv_iload_n hx hb dX8_parts_53 rfl (lv_at hl 2 rfl) ?_
        exact W.iret (v := x2) hx hb hr (fun t ht hW => ⟨⟨x2, M_9, rfl, hw, by unfold rt_B; rw [ht]; exact hP⟩, hS.F ht⟩) hS.2.2 dX8_parts_54
      · replace hw := hw.2 hc12
        refine lv_aload_n hx hb dX8_parts_15 rfl (lv_at hl 0 rfl) ?_
        refine lv_iload_n hx hb dX8_parts_16 rfl (lv_at hl 3 rfl) ?_
        refine rt_calli (rt_runV (n := 1) (As := [.int x3]) (rest := []) F hP hN hS (rt_frs hS.1) (rt_c8 _ rt_k1) (rt_l8 rt_k1) rfl (mtX8_parent l D cA ad hI _ x3 M_9 _ hw) kw_1219 kw_1216 kw_61 kw_1217 kw_1218 ⟨by decide, by decide, by decide +kernel⟩ ⟨rfl, rfl, Nat.le_of_ble_eq_true rfl, Nat.le_of_ble_eq_true rfl⟩ rfl hl.1 rfl (Nat.le_of_ble_eq_true rfl) dX8_parts_17 ⟨Nat.zero_le _, Nat.zero_le _⟩) hS (fun _ h => h) (fun r_17 M_17 H locs hw hP hS _ _ => ?_)
        refine lv_iload_n hx hb dX8_parts_20 rfl (lv_at hl 1 rfl) ?_
        refine lv_icmp_ne (tgt := 47) hx hb dX8_parts_21 (by decide) (fun hc21 => ?_) (fun hc21 => ?_)
        · replace hw := hw.1 hc21
          exact J47 x2 x3 M_17 _ _ _ hw hP hS (lv_sub hl [0, 1, 2, 3] rfl)
        · replace hw := hw.2 hc21
          refine lv_aload_n hx hb dX8_parts_24 rfl (lv_at hl 0 rfl) ?_
          refine rt_get F hP (rt_c8 _ rt_k1) (rt_l8 rt_k1) inX8 rfl 0 (by decide) kw_984 rfl rfl dX8_parts_25 ?_
          refine lv_iload_n hx hb dX8_parts_28 rfl (lv_at hl 3 rfl) ?_
          refine rt_call4 (rt_runV (n := 1) (As := [.int x3]) (rest := []) F hP hN hS (rt_frs hS.1) (rt_c13 _ rt_k2) (rt_l13 rt_k2) rfl (mtJx4a65c_get_915e3 l D cA ad hI _ x3 M_17 _ hw) kw_1186 kw_1205 kw_64 kw_1184 kw_1185 ⟨by decide, by decide, by decide +kernel⟩ ⟨rfl, rfl, (Nat.le_of_ble_eq_true rfl), (Nat.le_of_ble_eq_true rfl)⟩ rfl hl.1 rfl (Nat.le_of_ble_eq_true rfl) dX8_parts_29 ⟨Nat.zero_le _, Nat.zero_le _⟩) hS (fun _ h => h) (fun M_29 H locs hw hP hS _ _ => ?_)
          refine rt_cast4 F hP kw_1206 dX8_parts_32 ?_
          refine rt_calli (rt_runV (n := 0) (As := []) (rest := []) F hP hN hS (rt_frs hS.1) (rt_c10 _ rt_k4) (rt_l10 rt_k4) rfl (mtX10_isMark l D cA ad hI _ M_29 _ hw) kw_1223 kw_1220 kw_66 kw_1221 kw_1222 ⟨by decide, by decide, by decide +kernel⟩ ⟨rfl, rfl, Nat.le_of_ble_eq_true rfl, Nat.le_of_ble_eq_true rfl⟩ rfl hl.1 rfl (Nat.le_of_ble_eq_true rfl) dX8_parts_35 ⟨Nat.zero_le _, Nat.zero_le _⟩) hS (fun _ h => h) (fun r_35 M_35 H locs hw hP hS _ _ => ?_)
          refine lv_if_ne (tgt := 47) hx hb dX8_parts_38 (by decide) (fun hc38 => ?_) (fun hc38 => ?_)
          · replace hw := hw.1 hc38
            exact J47 x2 x3 M_35 _ _ _ hw hP hS (lv_sub hl [0, 1, 2, 3] rfl)
          · replace hw := hw.2 hc38
            refine lv_iload_n hx hb dX8_parts_41 rfl (lv_at hl 2 rfl) ?_
            refine lv_iconst (v := 1) hx hb dX8_parts_42 (by decide) ?_
            refine lv_iload_n hx hb dX8_parts_43 rfl (lv_at hl 3 rfl) ?_
            refine lv_ishl hx hb dX8_parts_44 ?_
            refine lv_ior hx hb dX8_parts_45 ?_
            refine lv_topi (fun x2_46 ex2_46 => ?_)
            replace hw := hw x2_46 ex2_46
            refine lv_istore_n (lv' := [(2, .int x2_46), (0, .ref (ad 1)), (1, .int p1), (3, .int x3)]) hx hb dX8_parts_46 rfl hl (by decide) rfl (fun ls hl => ?_)
            exact J47 x2_46 x3 M_35 _ _ _ hw hP hS (lv_sub hl [1, 2, 0, 3] rfl)
  unfold wpX8_parts at hw
  refine lv_iconst (v := 0) hx hb dX8_parts_0 (by decide) ?_
  refine lv_istore_n (lv' := [(2, .int 0), (0, .ref (ad 1)), (1, .int p1)]) hx hb dX8_parts_1 rfl hl (by decide) rfl (fun ls hl => ?_)
  refine lv_iconst (v := 0) hx hb dX8_parts_2 (by decide) ?_
  refine lv_istore_n (lv' := [(3, .int 0), (2, .int 0), (0, .ref (ad 1)), (1, .int p1)]) hx hb dX8_parts_3 rfl hl (by decide) rfl (fun ls hl => ?_)
  obtain ⟨n_, hw⟩ := hw
  exact L4 n_ 0 0 M _ _ _ hw hP hS (lv_sub hl [2, 3, 1, 0] rfl)
-- ===== X8_isLeaf
def wjX8_isLeaf_30 (p1 : Int32) (Q : Int32 → pt_M → Prop)  (xs0 : Int32) (M : pt_M) : Prop :=
  pt_zb xs0 ∧ Q xs0 M
def wjX8_isLeaf_29 (p1 : Int32) (Q : Int32 → pt_M → Prop)   (M : pt_M) : Prop :=
  wjX8_isLeaf_30 p1 Q 0 M
def wpX8_isLeaf (p1 : Int32) (M : pt_M) (Q : Int32 → pt_M → Prop) : Prop :=
  wpJx4a65c_get_915e3 p1 M (fun (M_5 : pt_M) => wpX10_isMark M_5 (fun (r_11 : Int32) (M_11 : pt_M) => (¬ r_11 = 0 → wjX8_isLeaf_29 p1 Q M_11) ∧ (r_11 = 0 → wpX8_parts p1 M_11 (fun (r_19 : Int32) (M_19 : pt_M) => (¬ r_19 = 0 → wjX8_isLeaf_29 p1 Q M_19) ∧ (r_19 = 0 → wjX8_isLeaf_30 p1 Q 1 M_19)))))
set_option maxHeartbeats 4000000 in
set_option maxRecDepth 100000 in
theorem mtX8_isLeaf (l : Launch) (D : va_G) (cA : Nat → ClassId) (ad : Nat → Nat) (hI : rt_I ad) (sz : Nat) (p1 : Int32) (M : pt_M) (Q : Int32 → pt_M → Prop) (hw : wpX8_isLeaf p1 M Q) : Met l yX8_isLeaf (Cond.code yX8_isLeaf cX8_isLeaf 2 (some .boolean) :: lw_all) ({ frames := 5, cells := 0, slots := 0, locals := 108 } : Room) (va_Pc [.ref (ad 1), .int p1] (rt_P D cA ad sz M)) (va_Qi Q (rt_B D cA ad) (rt_fr ad sz)) 0 0 (rt_fr ad sz) := by
  refine Met.ofW (cc := cX8_isLeaf) (maxL := 2) (ret := (some .boolean)) (by decide) rfl ?_
  intro p e s m args below meth c s₁ B hml hv
  obtain ⟨rfl, hsz, hP, hK, hN⟩ := hv
  have hx := B.exec
  have hb := B.bytes
  have hr := B.returns
  have hts0 := atoms_spec (ws := (Cond.code yX8_isLeaf cX8_isLeaf 2 (some .boolean) :: lw_all)) B.pre
  have hown : s.vm.findClass RX8 = some m.cls := findClass_of_methodNamed B.named
  have hlocks := B.notSynchronized
  subst hsz
  have F : pt_F p m c cX8_isLeaf 2 s _ RX8 D cA := ⟨⟨hx, hb, hml, hown, fun w h => hts0 w (List.mem_cons_of_mem _ h)⟩, hK⟩
  have hD : ∀ M, va_D (rt_fr ad s.heap.size) (rt_W cA ad M) := rt_D hI (fun k h => Or.inl ⟨k, h, rfl⟩)
  have hS : va_S (rt_fr ad s.heap.size) s.heap s.heap [] := va_S.rf
  have hl := lv_entry ([.ref (ad 1), .int p1]) (n := 2) (Nat.le_of_ble_eq_true rfl)
  rw [lg_entry_eq]
  generalize (lg_sl ([.ref (ad 1), .int p1]) ++ List.replicate (2 - (lg_sl ([.ref (ad 1), .int p1])).length) Slot.unset).toArray = ls at hl ⊢
  have hl : lv_has ls 2 [(0, .ref (ad 1)), (1, .int p1)] := hl
  have J30 : ∀ (xs0 : Int32) (M : pt_M) (H : Heap) (locs : List Loc) (ls : Array Slot), wjX8_isLeaf_30 p1 Q xs0 M → va_P D pt_cl (rt_W cA ad M) H → va_S (rt_fr ad s.heap.size) s.heap H locs → lv_has ls 2 [] → W p l e (headSpec (Cond.code yX8_isLeaf cX8_isLeaf 2 (some .boolean) :: lw_all) ({ frames := 5, cells := 0, slots := 0, locals := 108 } : Room)).room s m ([.ref (ad 1), .int p1] : List Value).toArray below meth c H locs 0 0 (MQ below (va_Qi Q (rt_B D cA ad) (rt_fr ad s.heap.size)) ([.ref (ad 1), .int p1] : List Value).toArray s 0 0 (rt_fr ad s.heap.size)) (F0 m 30 ls [.int xs0]) := by
    intro xs0 M H locs ls hw hP hS hl
    unfold wjX8_isLeaf_30 at hw
    exact W.zret (v := xs0) (ty := .boolean) hx hb hr (pt_zb_n hw.1) (fun t ht hW => ⟨⟨xs0, M, rfl, hw.2, by unfold rt_B; rw [ht]; exact hP⟩, hS.F ht⟩) hS.2.2 dX8_isLeaf_30
  have J29 : ∀ (M : pt_M) (H : Heap) (locs : List Loc) (ls : Array Slot), wjX8_isLeaf_29 p1 Q M → va_P D pt_cl (rt_W cA ad M) H → va_S (rt_fr ad s.heap.size) s.heap H locs → lv_has ls 2 [] → W p l e (headSpec (Cond.code yX8_isLeaf cX8_isLeaf 2 (some .boolean) :: lw_all) ({ frames := 5, cells := 0, slots := 0, locals := 108 } : Room)).room s m ([.ref (ad 1), .int p1] : List Value).toArray below meth c H locs 0 0 (MQ below (va_Qi Q (rt_B D cA ad) (rt_fr ad s.heap.size)) ([.ref (ad 1), .int p1] : List Value).toArray s 0 0 (rt_fr ad s.heap.size)) (F0 m 29 ls []) := by
    intro M H locs ls hw hP hS hl
    unfold wjX8_isLeaf_29 at hw
    refine lv_iconst (v := 0) hx hb dX8_isLeaf_29 (by decide) ?_
    exact J30 0 M _ _ _ hw hP hS (lv_sub hl [] rfl)
  unfold wpX8_isLeaf at hw
  refine lv_aload_n hx hb dX8_isLeaf_0 rfl (lv_at hl 0 rfl) ?_
  refine rt_get F hP (rt_c8 _ rt_k1) (rt_l8 rt_k1) inX8 rfl 0 (by decide) kw_984 rfl rfl dX8_isLeaf_1 ?_
  refine lv_iload_n hx hb dX8_isLeaf_4 rfl (lv_at hl 1 rfl) ?_
  refine rt_call4 (rt_runV (n := 1) (As := [.int p1]) (rest := []) F hP hN hS (rt_frs hS.1) (rt_c13 _ rt_k2) (rt_l13 rt_k2) rfl (mtJx4a65c_get_915e3 l D cA ad hI _ p1 M _ hw) kw_1186 kw_1205 kw_64 kw_1184 kw_1185 ⟨by decide, by decide, by decide +kernel⟩ ⟨rfl, rfl, (Nat.le_of_ble_eq_true rfl), (Nat.le_of_ble_eq_true rfl)⟩ rfl hl.1 rfl (Nat.le_of_ble_eq_true rfl) dX8_isLeaf_5 ⟨Nat.zero_le _, Nat.zero_le _⟩) hS (fun _ h => h) (fun M_5 H locs hw hP hS _ _ => ?_)
  refine rt_cast4 F hP kw_1206 dX8_isLeaf_8 ?_
  refine rt_calli (rt_runV (n := 0) (As := []) (rest := []) F hP hN hS (rt_frs hS.1) (rt_c10 _ rt_k4) (rt_l10 rt_k4) rfl (mtX10_isMark l D cA ad hI _ M_5 _ hw) kw_1223 kw_1220 kw_66 kw_1221 kw_1222 ⟨by decide, by decide, by decide +kernel⟩ ⟨rfl, rfl, Nat.le_of_ble_eq_true rfl, Nat.le_of_ble_eq_true rfl⟩ rfl hl.1 rfl (Nat.le_of_ble_eq_true rfl) dX8_isLeaf_11 ⟨Nat.zero_le _, Nat.zero_le _⟩) hS (fun _ h => h) (fun r_11 M_11 H locs hw hP hS _ _ => ?_)
  refine lv_if_ne (tgt := 29) hx hb dX8_isLeaf_14 (by decide) (fun hc14 => ?_) (fun hc14 => ?_)
  · replace hw := hw.1 hc14
    exact J29 M_11 _ _ _ hw hP hS (lv_sub hl [] rfl)
  · replace hw := hw.2 hc14
    refine lv_aload_n hx hb dX8_isLeaf_17 rfl (lv_at hl 0 rfl) ?_
    refine lv_iload_n hx hb dX8_isLeaf_18 rfl (lv_at hl 1 rfl) ?_
    refine rt_calli (rt_runV (n := 1) (As := [.int p1]) (rest := []) F hP hN hS (rt_frs hS.1) (rt_c8 _ rt_k1) (rt_l8 rt_k1) rfl (mtX8_parts l D cA ad hI _ p1 M_11 _ hw) kw_1214 kw_1232 kw_61 kw_1212 kw_1213 ⟨by decide, by decide, by decide +kernel⟩ ⟨rfl, rfl, Nat.le_of_ble_eq_true rfl, Nat.le_of_ble_eq_true rfl⟩ rfl hl.1 rfl (Nat.le_of_ble_eq_true rfl) dX8_isLeaf_19 ⟨Nat.zero_le _, Nat.zero_le _⟩) hS (fun _ h => h) (fun r_19 M_19 H locs hw hP hS _ _ => ?_)
    refine lv_if_ne (tgt := 29) hx hb dX8_isLeaf_22 (by decide) (fun hc22 => ?_) (fun hc22 => ?_)
    · replace hw := hw.1 hc22
      exact J29 M_19 _ _ _ hw hP hS (lv_sub hl [] rfl)
    · replace hw := hw.2 hc22
      refine lv_iconst (v := 1) hx hb dX8_isLeaf_25 (by decide) ?_
      refine lv_goto (tgt := 30) hx hb dX8_isLeaf_26 (by decide) ?_
      exact J30 1 M_19 _ _ _ hw hP hS (lv_sub hl [] rfl)
-- ===== X8_first
def wjX8_first_16 (p1 : Int32) (Q : Int32 → pt_M → Prop)   (M : pt_M) : Prop :=
  Q (-1) M
def wpX8_first (p1 : Int32) (M : pt_M) (Q : Int32 → pt_M → Prop) : Prop :=
  wpX8_kind p1 M (fun (r_2 : Int32) (M_2 : pt_M) => (¬ r_2 = 0 → wjX8_first_16 p1 Q M_2) ∧ (r_2 = 0 → wpX8_parts p1 M_2 (fun (r_10 : Int32) (M_10 : pt_M) => (¬ r_10 = 0 → wpJx4a65c_get_915e3 p1 M_10 (fun (M_23 : pt_M) => ((M_23 4 2) = (-1) → wpX8_parts p1 M_23 (fun (r_55 : Int32) (M_55 : pt_M) => False)) ∧ (¬ (M_23 4 2) = (-1) → wpJx4a65c_get_915e3 p1 M_23 (fun (M_41 : pt_M) => Q (M_41 4 2) M_41)))) ∧ (r_10 = 0 → wjX8_first_16 p1 Q M_10))))
set_option maxHeartbeats 4000000 in
set_option maxRecDepth 100000 in
theorem mtX8_first (l : Launch) (D : va_G) (cA : Nat → ClassId) (ad : Nat → Nat) (hI : rt_I ad) (sz : Nat) (p1 : Int32) (M : pt_M) (Q : Int32 → pt_M → Prop) (hw : wpX8_first p1 M Q) : Met l yX8_first (Cond.code yX8_first cX8_first 2 (some .int) :: lw_all) ({ frames := 5, cells := 0, slots := 0, locals := 108 } : Room) (va_Pc [.ref (ad 1), .int p1] (rt_P D cA ad sz M)) (va_Qi Q (rt_B D cA ad) (rt_fr ad sz)) 0 0 (rt_fr ad sz) := by
  refine Met.ofW (cc := cX8_first) (maxL := 2) (ret := (some .int)) (by decide) rfl ?_
  intro p e s m args below meth c s₁ B hml hv
  obtain ⟨rfl, hsz, hP, hK, hN⟩ := hv
  have hx := B.exec
  have hb := B.bytes
  have hr := B.returns
  have hts0 := atoms_spec (ws := (Cond.code yX8_first cX8_first 2 (some .int) :: lw_all)) B.pre
  have hown : s.vm.findClass RX8 = some m.cls := findClass_of_methodNamed B.named
  have hlocks := B.notSynchronized
  subst hsz
  have F : pt_F p m c cX8_first 2 s _ RX8 D cA := ⟨⟨hx, hb, hml, hown, fun w h => hts0 w (List.mem_cons_of_mem _ h)⟩, hK⟩
  have hD : ∀ M, va_D (rt_fr ad s.heap.size) (rt_W cA ad M) := rt_D hI (fun k h => Or.inl ⟨k, h, rfl⟩)
  have hS : va_S (rt_fr ad s.heap.size) s.heap s.heap [] := va_S.rf
  have hl := lv_entry ([.ref (ad 1), .int p1]) (n := 2) (Nat.le_of_ble_eq_true rfl)
  rw [lg_entry_eq]
  generalize (lg_sl ([.ref (ad 1), .int p1]) ++ List.replicate (2 - (lg_sl ([.ref (ad 1), .int p1])).length) Slot.unset).toArray = ls at hl ⊢
  have hl : lv_has ls 2 [(0, .ref (ad 1)), (1, .int p1)] := hl
  have J16 : ∀ (M : pt_M) (H : Heap) (locs : List Loc) (ls : Array Slot), wjX8_first_16 p1 Q M → va_P D pt_cl (rt_W cA ad M) H → va_S (rt_fr ad s.heap.size) s.heap H locs → lv_has ls 2 [] → W p l e (headSpec (Cond.code yX8_first cX8_first 2 (some .int) :: lw_all) ({ frames := 5, cells := 0, slots := 0, locals := 108 } : Room)).room s m ([.ref (ad 1), .int p1] : List Value).toArray below meth c H locs 0 0 (MQ below (va_Qi Q (rt_B D cA ad) (rt_fr ad s.heap.size)) ([.ref (ad 1), .int p1] : List Value).toArray s 0 0 (rt_fr ad s.heap.size)) (F0 m 16 ls []) := by
    intro M H locs ls hw hP hS hl
    unfold wjX8_first_16 at hw
    refine lv_iconst (v := (-1)) hx hb dX8_first_16 (by decide) ?_
    exact W.iret (v := (-1)) hx hb hr (fun t ht hW => ⟨⟨(-1), M, rfl, hw, by unfold rt_B; rw [ht]; exact hP⟩, hS.F ht⟩) hS.2.2 dX8_first_17
  unfold wpX8_first at hw
  refine lv_aload_n hx hb dX8_first_0 rfl (lv_at hl 0 rfl) ?_
  refine lv_iload_n hx hb dX8_first_1 rfl (lv_at hl 1 rfl) ?_
  refine rt_calli (rt_runV (n := 1) (As := [.int p1]) (rest := []) F hP hN hS (rt_frs hS.1) (rt_c8 _ rt_k1) (rt_l8 rt_k1) rfl (mtX8_kind l D cA ad hI _ p1 M _ hw) kw_1204 kw_1231 kw_61 kw_1202 kw_1203 ⟨by decide, by decide, by decide +kernel⟩ ⟨rfl, rfl, Nat.le_of_ble_eq_true rfl, Nat.le_of_ble_eq_true rfl⟩ rfl hl.1 rfl (Nat.le_of_ble_eq_true rfl) dX8_first_2 ⟨Nat.zero_le _, Nat.zero_le _⟩) hS (fun _ h => h) (fun r_2 M_2 H locs hw hP hS _ _ => ?_)
  refine lv_if_ne (tgt := 16) hx hb dX8_first_5 (by decide) (fun hc5 => ?_) (fun hc5 => ?_)
  · replace hw := hw.1 hc5
    exact J16 M_2 _ _ _ hw hP hS (lv_sub hl [] rfl)
  · replace hw := hw.2 hc5
    refine lv_aload_n hx hb dX8_first_8 rfl (lv_at hl 0 rfl) ?_
    refine lv_iload_n hx hb dX8_first_9 rfl (lv_at hl 1 rfl) ?_
    refine rt_calli (rt_runV (n := 1) (As := [.int p1]) (rest := []) F hP hN hS (rt_frs hS.1) (rt_c8 _ rt_k1) (rt_l8 rt_k1) rfl (mtX8_parts l D cA ad hI _ p1 M_2 _ hw) kw_1214 kw_1232 kw_61 kw_1212 kw_1213 ⟨by decide, by decide, by decide +kernel⟩ ⟨rfl, rfl, Nat.le_of_ble_eq_true rfl, Nat.le_of_ble_eq_true rfl⟩ rfl hl.1 rfl (Nat.le_of_ble_eq_true rfl) dX8_first_10 ⟨Nat.zero_le _, Nat.zero_le _⟩) hS (fun _ h => h) (fun r_10 M_10 H locs hw hP hS _ _ => ?_)
    refine lv_if_ne (tgt := 18) hx hb dX8_first_13 (by decide) (fun hc13 => ?_) (fun hc13 => ?_)
    · replace hw := hw.1 hc13
      refine lv_aload_n hx hb dX8_first_18 rfl (lv_at hl 0 rfl) ?_
      refine rt_get F hP (rt_c8 _ rt_k1) (rt_l8 rt_k1) inX8 rfl 0 (by decide) kw_984 rfl rfl dX8_first_19 ?_
      refine lv_iload_n hx hb dX8_first_22 rfl (lv_at hl 1 rfl) ?_
      refine rt_call4 (rt_runV (n := 1) (As := [.int p1]) (rest := []) F hP hN hS (rt_frs hS.1) (rt_c13 _ rt_k2) (rt_l13 rt_k2) rfl (mtJx4a65c_get_915e3 l D cA ad hI _ p1 M_10 _ hw) kw_1186 kw_1205 kw_64 kw_1184 kw_1185 ⟨by decide, by decide, by decide +kernel⟩ ⟨rfl, rfl, (Nat.le_of_ble_eq_true rfl), (Nat.le_of_ble_eq_true rfl)⟩ rfl hl.1 rfl (Nat.le_of_ble_eq_true rfl) dX8_first_23 ⟨Nat.zero_le _, Nat.zero_le _⟩) hS (fun _ h => h) (fun M_23 H locs hw hP hS _ _ => ?_)
      refine rt_cast4 F hP kw_1206 dX8_first_26 ?_
      refine rt_get F hP (rt_c10 _ rt_k4) (rt_l10 rt_k4) inX10 rfl 2 (by decide) kw_1061 rfl rfl dX8_first_29 ?_
      refine lv_iconst (v := (-1)) hx hb dX8_first_32 (by decide) ?_
      refine lv_icmp_eq (tgt := 53) hx hb dX8_first_33 (by decide) (fun hc33 => ?_) (fun hc33 => ?_)
      · replace hw := hw.1 hc33
        refine lv_aload_n hx hb dX8_first_53 rfl (lv_at hl 0 rfl) ?_
        refine lv_iload_n hx hb dX8_first_54 rfl (lv_at hl 1 rfl) ?_
        refine rt_calli (rt_runV (n := 1) (As := [.int p1]) (rest := []) F hP hN hS (rt_frs hS.1) (rt_c8 _ rt_k1) (rt_l8 rt_k1) rfl (mtX8_parts l D cA ad hI _ p1 M_23 _ hw) kw_1214 kw_1232 kw_61 kw_1212 kw_1213 ⟨by decide, by decide, by decide +kernel⟩ ⟨rfl, rfl, Nat.le_of_ble_eq_true rfl, Nat.le_of_ble_eq_true rfl⟩ rfl hl.1 rfl (Nat.le_of_ble_eq_true rfl) dX8_first_55 ⟨Nat.zero_le _, Nat.zero_le _⟩) hS (fun _ h => h) (fun r_55 M_55 H locs hw hP hS _ _ => ?_)
        exact hw.elim
      · replace hw := hw.2 hc33
        refine lv_aload_n hx hb dX8_first_36 rfl (lv_at hl 0 rfl) ?_
        refine rt_get F hP (rt_c8 _ rt_k1) (rt_l8 rt_k1) inX8 rfl 0 (by decide) kw_984 rfl rfl dX8_first_37 ?_
        refine lv_iload_n hx hb dX8_first_40 rfl (lv_at hl 1 rfl) ?_
        refine rt_call4 (rt_runV (n := 1) (As := [.int p1]) (rest := []) F hP hN hS (rt_frs hS.1) (rt_c13 _ rt_k2) (rt_l13 rt_k2) rfl (mtJx4a65c_get_915e3 l D cA ad hI _ p1 M_23 _ hw) kw_1186 kw_1205 kw_64 kw_1184 kw_1185 ⟨by decide, by decide, by decide +kernel⟩ ⟨rfl, rfl, (Nat.le_of_ble_eq_true rfl), (Nat.le_of_ble_eq_true rfl)⟩ rfl hl.1 rfl (Nat.le_of_ble_eq_true rfl) dX8_first_41 ⟨Nat.zero_le _, Nat.zero_le _⟩) hS (fun _ h => h) (fun M_41 H locs hw hP hS _ _ => ?_)
        refine rt_cast4 F hP kw_1206 dX8_first_44 ?_
        refine rt_get F hP (rt_c10 _ rt_k4) (rt_l10 rt_k4) inX10 rfl 2 (by decide) kw_1061 rfl rfl dX8_first_47 ?_
        refine lv_goto (tgt := 61) hx hb dX8_first_50 (by decide) ?_
        exact W.iret (v := (M_41 4 2)) hx hb hr (fun t ht hW => ⟨⟨(M_41 4 2), M_41, rfl, hw, by unfold rt_B; rw [ht]; exact hP⟩, hS.F ht⟩) hS.2.2 dX8_first_61
    · replace hw := hw.2 hc13
      exact J16 M_10 _ _ _ hw hP hS (lv_sub hl [] rfl)
-- ===== X8_isBeneath
def lbX8_isBeneath_6 (p1 : Int32) (p2 : Int32) (Q : Int32 → pt_M → Prop)  (R6 : Int32 → pt_M → Prop) (x3 : Int32) (M : pt_M) : Prop :=
  (x3 = (-1) → Q 0 M) ∧ (¬ x3 = (-1) → (¬ x3 = p2 → wpX8_parent x3 M (fun (r_20 : Int32) (M_20 : pt_M) => R6 r_20 M_20)) ∧ (x3 = p2 → Q 1 M))
def lpX8_isBeneath_6 (p1 : Int32) (p2 : Int32) (Q : Int32 → pt_M → Prop)  : Nat → Int32 → pt_M → Prop
  | 0 => fun _ _ => False
  | n + 1 => fun x3 M => lbX8_isBeneath_6 p1 p2 Q (lpX8_isBeneath_6 p1 p2 Q n) x3 M
def wpX8_isBeneath (p1 : Int32) (p2 : Int32) (M : pt_M) (Q : Int32 → pt_M → Prop) : Prop :=
  wpX8_parent p1 M (fun (r_2 : Int32) (M_2 : pt_M) => ∃ n : Nat, lpX8_isBeneath_6 p1 p2 Q n r_2 M_2)
set_option maxHeartbeats 4000000 in
set_option maxRecDepth 100000 in
theorem mtX8_isBeneath (l : Launch) (D : va_G) (cA : Nat → ClassId) (ad : Nat → Nat) (hI : rt_I ad) (sz : Nat) (p1 : Int32) (p2 : Int32) (M : pt_M) (Q : Int32 → pt_M → Prop) (hw : wpX8_isBeneath p1 p2 M Q) : Met l yX8_isBeneath (Cond.code yX8_isBeneath cX8_isBeneath 4 (some .boolean) :: lw_all) ({ frames := 4, cells := 0, slots := 0, locals := 85 } : Room) (va_Pc [.ref (ad 1), .int p1, .int p2] (rt_P D cA ad sz M)) (va_Qi Q (rt_B D cA ad) (rt_fr ad sz)) 0 0 (rt_fr ad sz) := by
  refine Met.ofW (cc := cX8_isBeneath) (maxL := 4) (ret := (some .boolean)) (by decide) rfl ?_
  intro p e s m args below meth c s₁ B hml hv
  obtain ⟨rfl, hsz, hP, hK, hN⟩ := hv
  have hx := B.exec
  have hb := B.bytes
  have hr := B.returns
  have hts0 := atoms_spec (ws := (Cond.code yX8_isBeneath cX8_isBeneath 4 (some .boolean) :: lw_all)) B.pre
  have hown : s.vm.findClass RX8 = some m.cls := findClass_of_methodNamed B.named
  have hlocks := B.notSynchronized
  subst hsz
  have F : pt_F p m c cX8_isBeneath 4 s _ RX8 D cA := ⟨⟨hx, hb, hml, hown, fun w h => hts0 w (List.mem_cons_of_mem _ h)⟩, hK⟩
  have hD : ∀ M, va_D (rt_fr ad s.heap.size) (rt_W cA ad M) := rt_D hI (fun k h => Or.inl ⟨k, h, rfl⟩)
  have hS : va_S (rt_fr ad s.heap.size) s.heap s.heap [] := va_S.rf
  have hl := lv_entry ([.ref (ad 1), .int p1, .int p2]) (n := 4) (Nat.le_of_ble_eq_true rfl)
  rw [lg_entry_eq]
  generalize (lg_sl ([.ref (ad 1), .int p1, .int p2]) ++ List.replicate (4 - (lg_sl ([.ref (ad 1), .int p1, .int p2])).length) Slot.unset).toArray = ls at hl ⊢
  have hl : lv_has ls 4 [(0, .ref (ad 1)), (1, .int p1), (2, .int p2)] := hl
  have L6 : ∀ (n6 : Nat) (x3 : Int32) (M : pt_M) (H : Heap) (locs : List Loc) (ls : Array Slot), lpX8_isBeneath_6 p1 p2 Q n6 x3 M → va_P D pt_cl (rt_W cA ad M) H → va_S (rt_fr ad s.heap.size) s.heap H locs → lv_has ls 4 [(0, .ref (ad 1)), (2, .int p2), (3, .int x3)] → W p l e (headSpec (Cond.code yX8_isBeneath cX8_isBeneath 4 (some .boolean) :: lw_all) ({ frames := 4, cells := 0, slots := 0, locals := 85 } : Room)).room s m ([.ref (ad 1), .int p1, .int p2] : List Value).toArray below meth c H locs 0 0 (MQ below (va_Qi Q (rt_B D cA ad) (rt_fr ad s.heap.size)) ([.ref (ad 1), .int p1, .int p2] : List Value).toArray s 0 0 (rt_fr ad s.heap.size)) (F0 m 6 ls []) := by
    intro n6
    induction n6 with
    | zero => intro x3 M H locs ls hw; exact hw.elim
    | succ n6 ih6 =>
      intro x3 M H locs ls hw hP hS hl
      replace hw : lbX8_isBeneath_6 p1 p2 Q (lpX8_isBeneath_6 p1 p2 Q n6) x3 M := hw
      unfold lbX8_isBeneath_6 at hw
      refine lv_iload_n hx hb dX8_isBeneath_6 rfl (lv_at hl 2 rfl) ?_
      refine lv_iconst (v := (-1)) hx hb dX8_isBeneath_7 (by decide) ?_
      refine lv_icmp_eq (tgt := 27) hx hb dX8_isBeneath_8 (by decide) (fun hc8 => ?_) (fun hc8 => ?_)
      · replace hw := hw.1 hc8
        refine lv_iconst (v := 0) hx hb dX8_isBeneath_27 (by decide) ?_
        exact W.zret (v := 0) (ty := .boolean) hx hb hr rfl (fun t ht hW => ⟨⟨0, M, rfl, hw, by unfold rt_B; rw [ht]; exact hP⟩, hS.F ht⟩) hS.2.2 dX8_isBeneath_28
      · replace hw := hw.2 hc8
        refine lv_iload_n hx hb dX8_isBeneath_11 rfl (lv_at hl 2 rfl) ?_
        refine lv_iload_n hx hb dX8_isBeneath_12 rfl (lv_at hl 1 rfl) ?_
        refine lv_icmp_ne (tgt := 18) hx hb dX8_isBeneath_13 (by decide) (fun hc13 => ?_) (fun hc13 => ?_)
        · replace hw := hw.1 hc13
          refine lv_aload_n hx hb dX8_isBeneath_18 rfl (lv_at hl 0 rfl) ?_
          refine lv_iload_n hx hb dX8_isBeneath_19 rfl (lv_at hl 2 rfl) ?_
          refine rt_calli (rt_runV (n := 1) (As := [.int x3]) (rest := []) F hP hN hS (rt_frs hS.1) (rt_c8 _ rt_k1) (rt_l8 rt_k1) rfl (mtX8_parent l D cA ad hI _ x3 M _ hw) kw_1219 kw_1216 kw_61 kw_1217 kw_1218 ⟨by decide, by decide, by decide +kernel⟩ ⟨rfl, rfl, Nat.le_of_ble_eq_true rfl, Nat.le_of_ble_eq_true rfl⟩ rfl hl.1 rfl (Nat.le_of_ble_eq_true rfl) dX8_isBeneath_20 ⟨Nat.zero_le _, Nat.zero_le _⟩) hS (fun _ h => h) (fun r_20 M_20 H locs hw hP hS _ _ => ?_)
          refine lv_istore_n (lv' := [(3, .int r_20), (0, .ref (ad 1)), (2, .int p2)]) hx hb dX8_isBeneath_23 rfl hl (by decide) rfl (fun ls hl => ?_)
          refine lv_goto (tgt := 6) hx hb dX8_isBeneath_24 (by decide) ?_
          exact ih6 r_20 M_20 _ _ _ hw hP hS (lv_sub hl [1, 2, 0] rfl)
        · replace hw := hw.2 hc13
          refine lv_iconst (v := 1) hx hb dX8_isBeneath_16 (by decide) ?_
          exact W.zret (v := 1) (ty := .boolean) hx hb hr rfl (fun t ht hW => ⟨⟨1, M, rfl, hw, by unfold rt_B; rw [ht]; exact hP⟩, hS.F ht⟩) hS.2.2 dX8_isBeneath_17
  unfold wpX8_isBeneath at hw
  refine lv_aload_n hx hb dX8_isBeneath_0 rfl (lv_at hl 0 rfl) ?_
  refine lv_iload_n hx hb dX8_isBeneath_1 rfl (lv_at hl 1 rfl) ?_
  refine rt_calli (rt_runV (n := 1) (As := [.int p1]) (rest := []) F hP hN hS (rt_frs hS.1) (rt_c8 _ rt_k1) (rt_l8 rt_k1) rfl (mtX8_parent l D cA ad hI _ p1 M _ hw) kw_1219 kw_1216 kw_61 kw_1217 kw_1218 ⟨by decide, by decide, by decide +kernel⟩ ⟨rfl, rfl, Nat.le_of_ble_eq_true rfl, Nat.le_of_ble_eq_true rfl⟩ rfl hl.1 rfl (Nat.le_of_ble_eq_true rfl) dX8_isBeneath_2 ⟨Nat.zero_le _, Nat.zero_le _⟩) hS (fun _ h => h) (fun r_2 M_2 H locs hw hP hS _ _ => ?_)
  refine lv_istore_n (lv' := [(3, .int r_2), (0, .ref (ad 1)), (1, .int p1), (2, .int p2)]) hx hb dX8_isBeneath_5 rfl hl (by decide) rfl (fun ls hl => ?_)
  obtain ⟨n_, hw⟩ := hw
  exact L6 n_ r_2 M_2 _ _ _ hw hP hS (lv_sub hl [1, 3, 0] rfl)
-- ===== X8_filled
def wjX8_filled_76 (p1 : Int32) (Q : Int32 → pt_M → Prop) (R37 : Int32 → Int32 → Int32 → pt_M → Prop) (x2 : Int32) (x3 : Int32) (x4 : Int32) (M : pt_M) : Prop :=
  ∀ x4_76 : Int32, x4_76 = x4 + 1 → R37 x2 x3 x4_76 M
def lbX8_filled_37 (p1 : Int32) (Q : Int32 → pt_M → Prop)  (R37 : Int32 → Int32 → Int32 → pt_M → Prop) (x2 : Int32) (x3 : Int32) (x4 : Int32) (M : pt_M) : Prop :=
  wpJx4a65c_size_8abf5 2 M (fun (r_43 : Int32) (M_43 : pt_M) => (r_43 ≤ x4 → Q x2 M_43) ∧ (¬ r_43 ≤ x4 → wpX8_kind p1 M_43 (fun (r_51 : Int32) (M_51 : pt_M) => (¬ r_51 = 1 → wjX8_filled_76 p1 Q R37 x2 x3 x4 M_51) ∧ (r_51 = 1 → wpX12_has x3 x4 M_51 (fun (r_61 : Int32) (M_61 : pt_M) => (r_61 = 0 → wjX8_filled_76 p1 Q R37 x2 x3 x4 M_61) ∧ (¬ r_61 = 0 → False))))))
def lpX8_filled_37 (p1 : Int32) (Q : Int32 → pt_M → Prop)  : Nat → Int32 → Int32 → Int32 → pt_M → Prop
  | 0 => fun _ _ _ _ => False
  | n + 1 => fun x2 x3 x4 M => lbX8_filled_37 p1 Q (lpX8_filled_37 p1 Q n) x2 x3 x4 M
def wjX8_filled_34 (p1 : Int32) (Q : Int32 → pt_M → Prop)  (x2 : Int32) (x3 : Int32) (M : pt_M) : Prop :=
  ∃ n : Nat, lpX8_filled_37 p1 Q n x2 x3 0 M
def wpX8_filled (p1 : Int32) (M : pt_M) (Q : Int32 → pt_M → Prop) : Prop :=
  ∀ x2_3 : Int32, x2_3 = (1 <<< (p1 &&& 31)) → wpX8_parts p1 M (fun (r_6 : Int32) (M_6 : pt_M) => wpX8_kind p1 M_6 (fun (r_12 : Int32) (M_12 : pt_M) => (¬ r_12 = 0 → wjX8_filled_34 p1 Q x2_3 r_6 M_12) ∧ (r_12 = 0 → (r_6 = 0 → wjX8_filled_34 p1 Q x2_3 r_6 M_12) ∧ (¬ r_6 = 0 → wpX8_first p1 M_12 (fun (r_26 : Int32) (M_26 : pt_M) => False)))))
set_option maxHeartbeats 4000000 in
set_option maxRecDepth 100000 in
theorem mtX8_filled (l : Launch) (D : va_G) (cA : Nat → ClassId) (ad : Nat → Nat) (hI : rt_I ad) (sz : Nat) (p1 : Int32) (M : pt_M) (Q : Int32 → pt_M → Prop) (hw : wpX8_filled p1 M Q) : Met l yX8_filled (Cond.code yX8_filled cX8_filled 5 (some .int) :: lw_all) ({ frames := 6, cells := 0, slots := 0, locals := 129 } : Room) (va_Pc [.ref (ad 1), .int p1] (rt_P D cA ad sz M)) (va_Qi Q (rt_B D cA ad) (rt_fr ad sz)) 0 0 (rt_fr ad sz) := by
  refine Met.ofW (cc := cX8_filled) (maxL := 5) (ret := (some .int)) (by decide) rfl ?_
  intro p e s m args below meth c s₁ B hml hv
  obtain ⟨rfl, hsz, hP, hK, hN⟩ := hv
  have hx := B.exec
  have hb := B.bytes
  have hr := B.returns
  have hts0 := atoms_spec (ws := (Cond.code yX8_filled cX8_filled 5 (some .int) :: lw_all)) B.pre
  have hown : s.vm.findClass RX8 = some m.cls := findClass_of_methodNamed B.named
  have hlocks := B.notSynchronized
  subst hsz
  have F : pt_F p m c cX8_filled 5 s _ RX8 D cA := ⟨⟨hx, hb, hml, hown, fun w h => hts0 w (List.mem_cons_of_mem _ h)⟩, hK⟩
  have hD : ∀ M, va_D (rt_fr ad s.heap.size) (rt_W cA ad M) := rt_D hI (fun k h => Or.inl ⟨k, h, rfl⟩)
  have hS : va_S (rt_fr ad s.heap.size) s.heap s.heap [] := va_S.rf
  have hl := lv_entry ([.ref (ad 1), .int p1]) (n := 5) (Nat.le_of_ble_eq_true rfl)
  rw [lg_entry_eq]
  generalize (lg_sl ([.ref (ad 1), .int p1]) ++ List.replicate (5 - (lg_sl ([.ref (ad 1), .int p1])).length) Slot.unset).toArray = ls at hl ⊢
  have hl : lv_has ls 5 [(0, .ref (ad 1)), (1, .int p1)] := hl
  have L37 : ∀ (n37 : Nat) (x2 : Int32) (x3 : Int32) (x4 : Int32) (M : pt_M) (H : Heap) (locs : List Loc) (ls : Array Slot), lpX8_filled_37 p1 Q n37 x2 x3 x4 M → va_P D pt_cl (rt_W cA ad M) H → va_S (rt_fr ad s.heap.size) s.heap H locs → lv_has ls 5 [(0, .ref (ad 1)), (1, .int p1), (2, .int x2), (3, .int x3), (4, .int x4)] → W p l e (headSpec (Cond.code yX8_filled cX8_filled 5 (some .int) :: lw_all) ({ frames := 6, cells := 0, slots := 0, locals := 129 } : Room)).room s m ([.ref (ad 1), .int p1] : List Value).toArray below meth c H locs 0 0 (MQ below (va_Qi Q (rt_B D cA ad) (rt_fr ad s.heap.size)) ([.ref (ad 1), .int p1] : List Value).toArray s 0 0 (rt_fr ad s.heap.size)) (F0 m 37 ls []) := by
    intro n37
    induction n37 with
    | zero => intro x2 x3 x4 M H locs ls hw; exact hw.elim
    | succ n37 ih37 =>
      have J76 : ∀ (x2 : Int32) (x3 : Int32) (x4 : Int32) (M : pt_M) (H : Heap) (locs : List Loc) (ls : Array Slot), wjX8_filled_76 p1 Q (lpX8_filled_37 p1 Q n37) x2 x3 x4 M → va_P D pt_cl (rt_W cA ad M) H → va_S (rt_fr ad s.heap.size) s.heap H locs → lv_has ls 5 [(0, .ref (ad 1)), (1, .int p1), (2, .int x2), (3, .int x3), (4, .int x4)] → W p l e (headSpec (Cond.code yX8_filled cX8_filled 5 (some .int) :: lw_all) ({ frames := 6, cells := 0, slots := 0, locals := 129 } : Room)).room s m ([.ref (ad 1), .int p1] : List Value).toArray below meth c H locs 0 0 (MQ below (va_Qi Q (rt_B D cA ad) (rt_fr ad s.heap.size)) ([.ref (ad 1), .int p1] : List Value).toArray s 0 0 (rt_fr ad s.heap.size)) (F0 m 76 ls []) := by
        intro x2 x3 x4 M H locs ls hw hP hS hl
        unfold wjX8_filled_76 at hw
        obtain ⟨x4_76, ex4_76⟩ : ∃ y : Int32, y = x4 + 1 := ⟨_, rfl⟩
        replace hw := hw x4_76 ex4_76
        refine lv_iinc (v := x4_76) (lv' := [(4, .int x4_76), (0, .ref (ad 1)), (1, .int p1), (2, .int x2), (3, .int x3)]) hx hb dX8_filled_76 hl (k := 4) rfl (by rw [ex4_76]; rfl) (by decide) rfl (fun ls hl => ?_)
        refine lv_goto (tgt := 37) hx hb dX8_filled_79 (by decide) ?_
        exact ih37 x2 x3 x4_76 M _ _ _ hw hP hS (lv_sub hl [1, 2, 3, 4, 0] rfl)
      intro x2 x3 x4 M H locs ls hw hP hS hl
      replace hw : lbX8_filled_37 p1 Q (lpX8_filled_37 p1 Q n37) x2 x3 x4 M := hw
      unfold lbX8_filled_37 at hw
      refine lv_iload hx hb dX8_filled_37 (lv_at hl 4 rfl) ?_
      refine lv_aload_n hx hb dX8_filled_39 rfl (lv_at hl 0 rfl) ?_
      refine rt_get F hP (rt_c8 _ rt_k1) (rt_l8 rt_k1) inX8 rfl 0 (by decide) kw_984 rfl rfl dX8_filled_40 ?_
      refine rt_calli (rt_runV (n := 0) (As := []) (rest := [.int x4]) F hP hN hS (rt_frs hS.1) (rt_c13 _ rt_k2) (rt_l13 rt_k2) rfl (mtJx4a65c_size_8abf5 l D cA ad hI _ 2 rt_k2 M _ hw) kw_1167 kw_1215 kw_64 kw_1165 kw_1166 ⟨by decide, by decide, by decide +kernel⟩ ⟨rfl, rfl, Nat.le_of_ble_eq_true rfl, Nat.le_of_ble_eq_true rfl⟩ rfl hl.1 rfl (Nat.le_of_ble_eq_true rfl) dX8_filled_43 ⟨Nat.zero_le _, Nat.zero_le _⟩) hS (fun _ h => h) (fun r_43 M_43 H locs hw hP hS _ _ => ?_)
      refine lv_icmp_ge (tgt := 82) hx hb dX8_filled_46 (by decide) (fun hc46 => ?_) (fun hc46 => ?_)
      · replace hw := hw.1 hc46
        refine lv_iload_n hx hb dX8_filled_82 rfl (lv_at hl 2 rfl) ?_
        exact W.iret (v := x2) hx hb hr (fun t ht hW => ⟨⟨x2, M_43, rfl, hw, by unfold rt_B; rw [ht]; exact hP⟩, hS.F ht⟩) hS.2.2 dX8_filled_83
      · replace hw := hw.2 hc46
        refine lv_aload_n hx hb dX8_filled_49 rfl (lv_at hl 0 rfl) ?_
        refine lv_iload_n hx hb dX8_filled_50 rfl (lv_at hl 1 rfl) ?_
        refine rt_calli (rt_runV (n := 1) (As := [.int p1]) (rest := []) F hP hN hS (rt_frs hS.1) (rt_c8 _ rt_k1) (rt_l8 rt_k1) rfl (mtX8_kind l D cA ad hI _ p1 M_43 _ hw) kw_1204 kw_1231 kw_61 kw_1202 kw_1203 ⟨by decide, by decide, by decide +kernel⟩ ⟨rfl, rfl, Nat.le_of_ble_eq_true rfl, Nat.le_of_ble_eq_true rfl⟩ rfl hl.1 rfl (Nat.le_of_ble_eq_true rfl) dX8_filled_51 ⟨Nat.zero_le _, Nat.zero_le _⟩) hS (fun _ h => h) (fun r_51 M_51 H locs hw hP hS _ _ => ?_)
        refine lv_iconst (v := 1) hx hb dX8_filled_54 (by decide) ?_
        refine lv_icmp_ne (tgt := 76) hx hb dX8_filled_55 (by decide) (fun hc55 => ?_) (fun hc55 => ?_)
        · replace hw := hw.1 hc55
          exact J76 x2 x3 x4 M_51 _ _ _ hw hP hS (lv_sub hl [0, 1, 2, 3, 4] rfl)
        · replace hw := hw.2 hc55
          refine lv_iload_n hx hb dX8_filled_58 rfl (lv_at hl 3 rfl) ?_
          refine lv_iload hx hb dX8_filled_59 (lv_at hl 4 rfl) ?_
          refine rt_calli (rt_runSN (n := 2) (As := [.int x3, .int x4]) (rest := []) F hP hN hS (rt_frs hS.1) (mtX12_has l D cA ad hI _ x3 x4 M_51 _ hw) kw_1226 kw_1315 kw_60 kw_1225 ⟨by decide, by decide, by decide +kernel⟩ ⟨rfl, rfl, Nat.le_of_ble_eq_true rfl, Nat.le_of_ble_eq_true rfl⟩ rfl hl.1 rfl (Nat.le_of_ble_eq_true rfl) dX8_filled_61 ⟨Nat.zero_le _, Nat.zero_le _⟩) hS (fun _ h => h) (fun r_61 M_61 H locs hw hP hS _ _ => ?_)
          refine lv_if_eq (tgt := 76) hx hb dX8_filled_64 (by decide) (fun hc64 => ?_) (fun hc64 => ?_)
          · replace hw := hw.1 hc64
            exact J76 x2 x3 x4 M_61 _ _ _ hw hP hS (lv_sub hl [0, 1, 2, 3, 4] rfl)
          · replace hw := hw.2 hc64
            refine lv_iload_n hx hb dX8_filled_67 rfl (lv_at hl 2 rfl) ?_
            refine lv_aload_n hx hb dX8_filled_68 rfl (lv_at hl 0 rfl) ?_
            refine lv_iload hx hb dX8_filled_69 (lv_at hl 4 rfl) ?_
            exact hw.elim
  have J34 : ∀ (x2 : Int32) (x3 : Int32) (M : pt_M) (H : Heap) (locs : List Loc) (ls : Array Slot), wjX8_filled_34 p1 Q x2 x3 M → va_P D pt_cl (rt_W cA ad M) H → va_S (rt_fr ad s.heap.size) s.heap H locs → lv_has ls 5 [(0, .ref (ad 1)), (1, .int p1), (2, .int x2), (3, .int x3)] → W p l e (headSpec (Cond.code yX8_filled cX8_filled 5 (some .int) :: lw_all) ({ frames := 6, cells := 0, slots := 0, locals := 129 } : Room)).room s m ([.ref (ad 1), .int p1] : List Value).toArray below meth c H locs 0 0 (MQ below (va_Qi Q (rt_B D cA ad) (rt_fr ad s.heap.size)) ([.ref (ad 1), .int p1] : List Value).toArray s 0 0 (rt_fr ad s.heap.size)) (F0 m 34 ls []) := by
    intro x2 x3 M H locs ls hw hP hS hl
    unfold wjX8_filled_34 at hw
    refine lv_iconst (v := 0) hx hb dX8_filled_34 (by decide) ?_
    refine lv_istore (lv' := [(4, .int 0), (0, .ref (ad 1)), (1, .int p1), (2, .int x2), (3, .int x3)]) hx hb dX8_filled_35 hl (by decide) rfl (fun ls hl => ?_)
    obtain ⟨n_, hw⟩ := hw
    exact L37 n_ x2 x3 0 M _ _ _ hw hP hS (lv_sub hl [1, 2, 3, 4, 0] rfl)
  unfold wpX8_filled at hw
  refine lv_iconst (v := 1) hx hb dX8_filled_0 (by decide) ?_
  refine lv_iload_n hx hb dX8_filled_1 rfl (lv_at hl 1 rfl) ?_
  refine lv_ishl hx hb dX8_filled_2 ?_
  refine lv_topi (fun x2_3 ex2_3 => ?_)
  replace hw := hw x2_3 ex2_3
  refine lv_istore_n (lv' := [(2, .int x2_3), (0, .ref (ad 1)), (1, .int p1)]) hx hb dX8_filled_3 rfl hl (by decide) rfl (fun ls hl => ?_)
  refine lv_aload_n hx hb dX8_filled_4 rfl (lv_at hl 1 rfl) ?_
  refine lv_iload_n hx hb dX8_filled_5 rfl (lv_at hl 2 rfl) ?_
  refine rt_calli (rt_runV (n := 1) (As := [.int p1]) (rest := []) F hP hN hS (rt_frs hS.1) (rt_c8 _ rt_k1) (rt_l8 rt_k1) rfl (mtX8_parts l D cA ad hI _ p1 M _ hw) kw_1214 kw_1232 kw_61 kw_1212 kw_1213 ⟨by decide, by decide, by decide +kernel⟩ ⟨rfl, rfl, Nat.le_of_ble_eq_true rfl, Nat.le_of_ble_eq_true rfl⟩ rfl hl.1 rfl (Nat.le_of_ble_eq_true rfl) dX8_filled_6 ⟨Nat.zero_le _, Nat.zero_le _⟩) hS (fun _ h => h) (fun r_6 M_6 H locs hw hP hS _ _ => ?_)
  refine lv_istore_n (lv' := [(3, .int r_6), (2, .int x2_3), (0, .ref (ad 1)), (1, .int p1)]) hx hb dX8_filled_9 rfl hl (by decide) rfl (fun ls hl => ?_)
  refine lv_aload_n hx hb dX8_filled_10 rfl (lv_at hl 2 rfl) ?_
  refine lv_iload_n hx hb dX8_filled_11 rfl (lv_at hl 3 rfl) ?_
  refine rt_calli (rt_runV (n := 1) (As := [.int p1]) (rest := []) F hP hN hS (rt_frs hS.1) (rt_c8 _ rt_k1) (rt_l8 rt_k1) rfl (mtX8_kind l D cA ad hI _ p1 M_6 _ hw) kw_1204 kw_1231 kw_61 kw_1202 kw_1203 ⟨by decide, by decide, by decide +kernel⟩ ⟨rfl, rfl, Nat.le_of_ble_eq_true rfl, Nat.le_of_ble_eq_true rfl⟩ rfl hl.1 rfl (Nat.le_of_ble_eq_true rfl) dX8_filled_12 ⟨Nat.zero_le _, Nat.zero_le _⟩) hS (fun _ h => h) (fun r_12 M_12 H locs hw hP hS _ _ => ?_)
  refine lv_if_ne (tgt := 34) hx hb dX8_filled_15 (by decide) (fun hc15 => ?_) (fun hc15 => ?_)
  · replace hw := hw.1 hc15
    exact J34 x2_3 r_6 M_12 _ _ _ hw hP hS (lv_sub hl [2, 3, 1, 0] rfl)
  · replace hw := hw.2 hc15
    refine lv_iload_n hx hb dX8_filled_18 rfl (lv_at hl 0 rfl) ?_
    refine lv_if_eq (tgt := 34) hx hb dX8_filled_19 (by decide) (fun hc19 => ?_) (fun hc19 => ?_)
    · replace hw := hw.1 hc19
      exact J34 x2_3 r_6 M_12 _ _ _ hw hP hS (lv_sub hl [2, 3, 1, 0] rfl)
    · replace hw := hw.2 hc19
      refine lv_iload_n hx hb dX8_filled_22 rfl (lv_at hl 1 rfl) ?_
      refine lv_aload_n hx hb dX8_filled_23 rfl (lv_at hl 2 rfl) ?_
      refine lv_aload_n hx hb dX8_filled_24 rfl (lv_at hl 2 rfl) ?_
      refine lv_iload_n hx hb dX8_filled_25 rfl (lv_at hl 3 rfl) ?_
      refine rt_calli (rt_runV (n := 1) (As := [.int p1]) (rest := [.ref (ad 1), .int x2_3]) F hP hN hS (rt_frs hS.1) (rt_c8 _ rt_k1) (rt_l8 rt_k1) rfl (mtX8_first l D cA ad hI _ p1 M_12 _ hw) kw_1230 kw_1313 kw_61 kw_1228 kw_1229 ⟨by decide, by decide, by decide +kernel⟩ ⟨rfl, rfl, Nat.le_of_ble_eq_true rfl, Nat.le_of_ble_eq_true rfl⟩ rfl hl.1 rfl (Nat.le_of_ble_eq_true rfl) dX8_filled_26 ⟨Nat.zero_le _, Nat.zero_le _⟩) hS (fun _ h => h) (fun r_26 M_26 H locs hw hP hS _ _ => ?_)
      exact hw.elim
-- ===== X9_isOver
def wjX9_isOver_61  (Q : Int32 → pt_M → Prop) (R2 : Int32 → pt_M → Prop) (x1 : Int32) (M : pt_M) : Prop :=
  ∀ x1_61 : Int32, x1_61 = x1 + 1 → R2 x1_61 M
def lbX9_isOver_2  (Q : Int32 → pt_M → Prop)  (R2 : Int32 → pt_M → Prop) (x1 : Int32) (M : pt_M) : Prop :=
  wpJx4a65c_size_8abf5 2 M (fun (r_13 : Int32) (M_13 : pt_M) => (r_13 ≤ x1 → Q 0 M_13) ∧ (¬ r_13 ≤ x1 → wpX12_has (M_13 6 1) x1 M_13 (fun (r_24 : Int32) (M_24 : pt_M) => (r_24 = 0 → wjX9_isOver_61 Q R2 x1 M_24) ∧ (¬ r_24 = 0 → wpX8_kind x1 M_24 (fun (r_38 : Int32) (M_38 : pt_M) => (¬ r_38 = 2 → wjX9_isOver_61 Q R2 x1 M_38) ∧ (r_38 = 2 → wpX8_parent x1 M_38 (fun (r_53 : Int32) (M_53 : pt_M) => (¬ r_53 = 0 → wjX9_isOver_61 Q R2 x1 M_53) ∧ (r_53 = 0 → Q 1 M_53))))))))
def lpX9_isOver_2  (Q : Int32 → pt_M → Prop)  : Nat → Int32 → pt_M → Prop
  | 0 => fun _ _ => False
  | n + 1 => fun x1 M => lbX9_isOver_2 Q (lpX9_isOver_2 Q n) x1 M
def wpX9_isOver  (M : pt_M) (Q : Int32 → pt_M → Prop) : Prop :=
  ∃ n : Nat, lpX9_isOver_2 Q n 1 M
set_option maxHeartbeats 4000000 in
set_option maxRecDepth 100000 in
theorem mtX9_isOver (l : Launch) (D : va_G) (cA : Nat → ClassId) (ad : Nat → Nat) (hI : rt_I ad) (sz : Nat) (M : pt_M) (Q : Int32 → pt_M → Prop) (hw : wpX9_isOver M Q) : Met l yX9_isOver (Cond.code yX9_isOver cX9_isOver 2 (some .boolean) :: lw_all) ({ frames := 4, cells := 0, slots := 0, locals := 85 } : Room) (va_Pc [.ref (ad 6)] (rt_P D cA ad sz M)) (va_Qi Q (rt_B D cA ad) (rt_fr ad sz)) 0 0 (rt_fr ad sz) := by
  refine Met.ofW (cc := cX9_isOver) (maxL := 2) (ret := (some .boolean)) (by decide) rfl ?_
  intro p e s m args below meth c s₁ B hml hv
  obtain ⟨rfl, hsz, hP, hK, hN⟩ := hv
  have hx := B.exec
  have hb := B.bytes
  have hr := B.returns
  have hts0 := atoms_spec (ws := (Cond.code yX9_isOver cX9_isOver 2 (some .boolean) :: lw_all)) B.pre
  have hown : s.vm.findClass RX9 = some m.cls := findClass_of_methodNamed B.named
  have hlocks := B.notSynchronized
  subst hsz
  have F : pt_F p m c cX9_isOver 2 s _ RX9 D cA := ⟨⟨hx, hb, hml, hown, fun w h => hts0 w (List.mem_cons_of_mem _ h)⟩, hK⟩
  have hD : ∀ M, va_D (rt_fr ad s.heap.size) (rt_W cA ad M) := rt_D hI (fun k h => Or.inl ⟨k, h, rfl⟩)
  have hS : va_S (rt_fr ad s.heap.size) s.heap s.heap [] := va_S.rf
  have hl := lv_entry ([.ref (ad 6)]) (n := 2) (Nat.le_of_ble_eq_true rfl)
  rw [lg_entry_eq]
  generalize (lg_sl ([.ref (ad 6)]) ++ List.replicate (2 - (lg_sl ([.ref (ad 6)])).length) Slot.unset).toArray = ls at hl ⊢
  have hl : lv_has ls 2 [(0, .ref (ad 6))] := hl
  have L2 : ∀ (n2 : Nat) (x1 : Int32) (M : pt_M) (H : Heap) (locs : List Loc) (ls : Array Slot), lpX9_isOver_2 Q n2 x1 M → va_P D pt_cl (rt_W cA ad M) H → va_S (rt_fr ad s.heap.size) s.heap H locs → lv_has ls 2 [(0, .ref (ad 6)), (1, .int x1)] → W p l e (headSpec (Cond.code yX9_isOver cX9_isOver 2 (some .boolean) :: lw_all) ({ frames := 4, cells := 0, slots := 0, locals := 85 } : Room)).room s m ([.ref (ad 6)] : List Value).toArray below meth c H locs 0 0 (MQ below (va_Qi Q (rt_B D cA ad) (rt_fr ad s.heap.size)) ([.ref (ad 6)] : List Value).toArray s 0 0 (rt_fr ad s.heap.size)) (F0 m 2 ls []) := by
    intro n2
    induction n2 with
    | zero => intro x1 M H locs ls hw; exact hw.elim
    | succ n2 ih2 =>
      have J61 : ∀ (x1 : Int32) (M : pt_M) (H : Heap) (locs : List Loc) (ls : Array Slot), wjX9_isOver_61 Q (lpX9_isOver_2 Q n2) x1 M → va_P D pt_cl (rt_W cA ad M) H → va_S (rt_fr ad s.heap.size) s.heap H locs → lv_has ls 2 [(0, .ref (ad 6)), (1, .int x1)] → W p l e (headSpec (Cond.code yX9_isOver cX9_isOver 2 (some .boolean) :: lw_all) ({ frames := 4, cells := 0, slots := 0, locals := 85 } : Room)).room s m ([.ref (ad 6)] : List Value).toArray below meth c H locs 0 0 (MQ below (va_Qi Q (rt_B D cA ad) (rt_fr ad s.heap.size)) ([.ref (ad 6)] : List Value).toArray s 0 0 (rt_fr ad s.heap.size)) (F0 m 61 ls []) := by
        intro x1 M H locs ls hw hP hS hl
        unfold wjX9_isOver_61 at hw
        obtain ⟨x1_61, ex1_61⟩ : ∃ y : Int32, y = x1 + 1 := ⟨_, rfl⟩
        replace hw := hw x1_61 ex1_61
        refine lv_iinc (v := x1_61) (lv' := [(1, .int x1_61), (0, .ref (ad 6))]) hx hb dX9_isOver_61 hl (k := 1) rfl (by rw [ex1_61]; rfl) (by decide) rfl (fun ls hl => ?_)
        refine lv_goto (tgt := 2) hx hb dX9_isOver_64 (by decide) ?_
        exact ih2 x1_61 M _ _ _ hw hP hS (lv_sub hl [1, 0] rfl)
      intro x1 M H locs ls hw hP hS hl
      replace hw : lbX9_isOver_2 Q (lpX9_isOver_2 Q n2) x1 M := hw
      unfold lbX9_isOver_2 at hw
      refine lv_iload_n hx hb dX9_isOver_2 rfl (lv_at hl 1 rfl) ?_
      refine lv_aload_n hx hb dX9_isOver_3 rfl (lv_at hl 0 rfl) ?_
      refine rt_get F hP (rt_c9 _ rt_k6) (rt_l9 rt_k6) inX9 rfl 10 (by decide) kw_1022 rfl rfl dX9_isOver_4 ?_
      refine rt_getN F hP (rt_c12 _ rt_k0) (rt_l12 rt_k0) inX12 rfl 1 (by decide) kw_1141 rfl rfl dX9_isOver_7 ?_
      refine rt_get F hP (rt_c8 _ rt_k1) (rt_l8 rt_k1) inX8 rfl 0 (by decide) kw_986 rfl rfl dX9_isOver_10 ?_
      refine rt_calli (rt_runV (n := 0) (As := []) (rest := [.int x1]) F hP hN hS (rt_frs hS.1) (rt_c13 _ rt_k2) (rt_l13 rt_k2) rfl (mtJx4a65c_size_8abf5 l D cA ad hI _ 2 rt_k2 M _ hw) kw_1167 kw_1320 kw_64 kw_1165 kw_1166 ⟨by decide, by decide, by decide +kernel⟩ ⟨rfl, rfl, Nat.le_of_ble_eq_true rfl, Nat.le_of_ble_eq_true rfl⟩ rfl hl.1 rfl (Nat.le_of_ble_eq_true rfl) dX9_isOver_13 ⟨Nat.zero_le _, Nat.zero_le _⟩) hS (fun _ h => h) (fun r_13 M_13 H locs hw hP hS _ _ => ?_)
      refine lv_icmp_ge (tgt := 67) hx hb dX9_isOver_16 (by decide) (fun hc16 => ?_) (fun hc16 => ?_)
      · replace hw := hw.1 hc16
        refine lv_iconst (v := 0) hx hb dX9_isOver_67 (by decide) ?_
        exact W.zret (v := 0) (ty := .boolean) hx hb hr rfl (fun t ht hW => ⟨⟨0, M_13, rfl, hw, by unfold rt_B; rw [ht]; exact hP⟩, hS.F ht⟩) hS.2.2 dX9_isOver_68
      · replace hw := hw.2 hc16
        refine lv_aload_n hx hb dX9_isOver_19 rfl (lv_at hl 0 rfl) ?_
        refine rt_get F hP (rt_c9 _ rt_k6) (rt_l9 rt_k6) inX9 rfl 1 (by decide) kw_1005 rfl rfl dX9_isOver_20 ?_
        refine lv_iload_n hx hb dX9_isOver_23 rfl (lv_at hl 1 rfl) ?_
        refine rt_calli (rt_runSN (n := 2) (As := [.int (M_13 6 1), .int x1]) (rest := []) F hP hN hS (rt_frs hS.1) (mtX12_has l D cA ad hI _ (M_13 6 1) x1 M_13 _ hw) kw_1226 kw_1321 kw_60 kw_1225 ⟨by decide, by decide, by decide +kernel⟩ ⟨rfl, rfl, Nat.le_of_ble_eq_true rfl, Nat.le_of_ble_eq_true rfl⟩ rfl hl.1 rfl (Nat.le_of_ble_eq_true rfl) dX9_isOver_24 ⟨Nat.zero_le _, Nat.zero_le _⟩) hS (fun _ h => h) (fun r_24 M_24 H locs hw hP hS _ _ => ?_)
        refine lv_if_eq (tgt := 61) hx hb dX9_isOver_27 (by decide) (fun hc27 => ?_) (fun hc27 => ?_)
        · replace hw := hw.1 hc27
          exact J61 x1 M_24 _ _ _ hw hP hS (lv_sub hl [0, 1] rfl)
        · replace hw := hw.2 hc27
          refine lv_aload_n hx hb dX9_isOver_30 rfl (lv_at hl 0 rfl) ?_
          refine rt_get F hP (rt_c9 _ rt_k6) (rt_l9 rt_k6) inX9 rfl 10 (by decide) kw_1022 rfl rfl dX9_isOver_31 ?_
          refine rt_getN F hP (rt_c12 _ rt_k0) (rt_l12 rt_k0) inX12 rfl 1 (by decide) kw_1141 rfl rfl dX9_isOver_34 ?_
          refine lv_iload_n hx hb dX9_isOver_37 rfl (lv_at hl 1 rfl) ?_
          refine rt_calli (rt_runV (n := 1) (As := [.int x1]) (rest := []) F hP hN hS (rt_frs hS.1) (rt_c8 _ rt_k1) (rt_l8 rt_k1) rfl (mtX8_kind l D cA ad hI _ x1 M_24 _ hw) kw_1204 kw_1359 kw_61 kw_1202 kw_1203 ⟨by decide, by decide, by decide +kernel⟩ ⟨rfl, rfl, Nat.le_of_ble_eq_true rfl, Nat.le_of_ble_eq_true rfl⟩ rfl hl.1 rfl (Nat.le_of_ble_eq_true rfl) dX9_isOver_38 ⟨Nat.zero_le _, Nat.zero_le _⟩) hS (fun _ h => h) (fun r_38 M_38 H locs hw hP hS _ _ => ?_)
          refine lv_iconst (v := 2) hx hb dX9_isOver_41 (by decide) ?_
          refine lv_icmp_ne (tgt := 61) hx hb dX9_isOver_42 (by decide) (fun hc42 => ?_) (fun hc42 => ?_)
          · replace hw := hw.1 hc42
            exact J61 x1 M_38 _ _ _ hw hP hS (lv_sub hl [0, 1] rfl)
          · replace hw := hw.2 hc42
            refine lv_aload_n hx hb dX9_isOver_45 rfl (lv_at hl 0 rfl) ?_
            refine rt_get F hP (rt_c9 _ rt_k6) (rt_l9 rt_k6) inX9 rfl 10 (by decide) kw_1022 rfl rfl dX9_isOver_46 ?_
            refine rt_getN F hP (rt_c12 _ rt_k0) (rt_l12 rt_k0) inX12 rfl 1 (by decide) kw_1141 rfl rfl dX9_isOver_49 ?_
            refine lv_iload_n hx hb dX9_isOver_52 rfl (lv_at hl 1 rfl) ?_
            refine rt_calli (rt_runV (n := 1) (As := [.int x1]) (rest := []) F hP hN hS (rt_frs hS.1) (rt_c8 _ rt_k1) (rt_l8 rt_k1) rfl (mtX8_parent l D cA ad hI _ x1 M_38 _ hw) kw_1219 kw_1360 kw_61 kw_1217 kw_1218 ⟨by decide, by decide, by decide +kernel⟩ ⟨rfl, rfl, Nat.le_of_ble_eq_true rfl, Nat.le_of_ble_eq_true rfl⟩ rfl hl.1 rfl (Nat.le_of_ble_eq_true rfl) dX9_isOver_53 ⟨Nat.zero_le _, Nat.zero_le _⟩) hS (fun _ h => h) (fun r_53 M_53 H locs hw hP hS _ _ => ?_)
            refine lv_if_ne (tgt := 61) hx hb dX9_isOver_56 (by decide) (fun hc56 => ?_) (fun hc56 => ?_)
            · replace hw := hw.1 hc56
              exact J61 x1 M_53 _ _ _ hw hP hS (lv_sub hl [0, 1] rfl)
            · replace hw := hw.2 hc56
              refine lv_iconst (v := 1) hx hb dX9_isOver_59 (by decide) ?_
              exact W.zret (v := 1) (ty := .boolean) hx hb hr rfl (fun t ht hW => ⟨⟨1, M_53, rfl, hw, by unfold rt_B; rw [ht]; exact hP⟩, hS.F ht⟩) hS.2.2 dX9_isOver_60
  unfold wpX9_isOver at hw
  refine lv_iconst (v := 1) hx hb dX9_isOver_0 (by decide) ?_
  refine lv_istore_n (lv' := [(1, .int 1), (0, .ref (ad 6))]) hx hb dX9_isOver_1 rfl hl (by decide) rfl (fun ls hl => ?_)
  obtain ⟨n_, hw⟩ := hw
  exact L2 n_ 1 M _ _ _ hw hP hS (lv_sub hl [1, 0] rfl)
