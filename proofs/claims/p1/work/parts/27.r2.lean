-- ===== X9_isEnded
def wjX9_isEnded_158 (p1 : Int32) (Q : Int32 → pt_M → Prop)  (xs0 : Int32) (M : pt_M) : Prop :=
  pt_zb xs0 ∧ Q xs0 M
def wjX9_isEnded_157 (p1 : Int32) (Q : Int32 → pt_M → Prop)   (M : pt_M) : Prop :=
  wjX9_isEnded_158 p1 Q 0 M
def wjX9_isEnded_138 (p1 : Int32) (Q : Int32 → pt_M → Prop) (R20 : Int32 → Int32 → Int32 → Int32 → pt_M → Prop) (x2 : Int32) (x3 : Int32) (x4 : Int32) (x5 : Int32) (M : pt_M) : Prop :=
  ∀ x5_138 : Int32, x5_138 = x5 + 1 → R20 x2 x3 x4 x5_138 M
def wjX9_isEnded_102 (p1 : Int32) (Q : Int32 → pt_M → Prop) (R20 : Int32 → Int32 → Int32 → Int32 → pt_M → Prop) (x2 : Int32) (x4 : Int32) (x5 : Int32) (xs0 : Int32) (xs1 : Int32) (M : pt_M) : Prop :=
  ∀ x3_103 : Int32, x3_103 = (xs0 ||| xs1) → wpX8_kind p1 M (fun (r_114 : Int32) (M_114 : pt_M) => (¬ r_114 = 1 → ∀ x4_136 : Int32, x4_136 = (x4 &&& 1) → wjX9_isEnded_138 p1 Q R20 x2 x3_103 x4_136 x5 M_114) ∧ (r_114 = 1 → False))
def wjX9_isEnded_97 (p1 : Int32) (Q : Int32 → pt_M → Prop) (R20 : Int32 → Int32 → Int32 → Int32 → pt_M → Prop) (x2 : Int32) (x4 : Int32) (x5 : Int32) (xs0 : Int32) (M : pt_M) : Prop :=
  wjX9_isEnded_102 p1 Q R20 x2 x4 x5 xs0 0 M
def lbX9_isEnded_20 (p1 : Int32) (Q : Int32 → pt_M → Prop)  (R20 : Int32 → Int32 → Int32 → Int32 → pt_M → Prop) (x2 : Int32) (x3 : Int32) (x4 : Int32) (x5 : Int32) (M : pt_M) : Prop :=
  wpJx4a65c_size_8abf5 2 M (fun (r_32 : Int32) (M_32 : pt_M) => (r_32 ≤ x5 → (x3 = 0 → wjX9_isEnded_157 p1 Q M_32) ∧ (¬ x3 = 0 → (x4 = 0 → wjX9_isEnded_157 p1 Q M_32) ∧ (¬ x4 = 0 → wjX9_isEnded_158 p1 Q 1 M_32))) ∧ (¬ r_32 ≤ x5 → wpX12_has x2 x5 M_32 (fun (r_41 : Int32) (M_41 : pt_M) => (¬ r_41 = 0 → wpX8_kind p1 M_41 (fun (r_59 : Int32) (M_59 : pt_M) => (¬ r_59 = 0 → wjX9_isEnded_102 p1 Q R20 x2 x4 x5 x3 1 M_59) ∧ (r_59 = 0 → wpX12_has (M_59 6 1) x5 M_59 (fun (r_71 : Int32) (M_71 : pt_M) => (r_71 = 0 → wjX9_isEnded_97 p1 Q R20 x2 x4 x5 x3 M_71) ∧ (¬ r_71 = 0 → wpX8_kind x5 M_71 (fun (r_86 : Int32) (M_86 : pt_M) => (¬ r_86 = 2 → wjX9_isEnded_97 p1 Q R20 x2 x4 x5 x3 M_86) ∧ (r_86 = 2 → wjX9_isEnded_102 p1 Q R20 x2 x4 x5 x3 1 M_86))))))) ∧ (r_41 = 0 → wjX9_isEnded_138 p1 Q R20 x2 x3 x4 x5 M_41))))
def lpX9_isEnded_20 (p1 : Int32) (Q : Int32 → pt_M → Prop)  : Nat → Int32 → Int32 → Int32 → Int32 → pt_M → Prop
  | 0 => fun _ _ _ _ _ => False
  | n + 1 => fun x2 x3 x4 x5 M => lbX9_isEnded_20 p1 Q (lpX9_isEnded_20 p1 Q n) x2 x3 x4 x5 M
def wpX9_isEnded (p1 : Int32) (M : pt_M) (Q : Int32 → pt_M → Prop) : Prop :=
  wpX8_parts p1 M (fun (r_8 : Int32) (M_8 : pt_M) => ∃ n : Nat, lpX9_isEnded_20 p1 Q n r_8 0 1 0 M_8)
set_option maxHeartbeats 4000000 in
set_option maxRecDepth 100000 in
theorem mtX9_isEnded (l : Launch) (D : va_G) (cA : Nat → ClassId) (ad : Nat → Nat) (hI : rt_I ad) (sz : Nat) (p1 : Int32) (M : pt_M) (Q : Int32 → pt_M → Prop) (hw : wpX9_isEnded p1 M Q) : Met l yX9_isEnded (Cond.code yX9_isEnded cX9_isEnded 6 (some .boolean) :: lw_all) ({ frames := 5, cells := 0, slots := 0, locals := 108 } : Room) (va_Pc [.ref (ad 6), .int p1] (rt_P D cA ad sz M)) (va_Qi Q (rt_B D cA ad) (rt_fr ad sz)) 0 0 (rt_fr ad sz) := by
  refine Met.ofW (cc := cX9_isEnded) (maxL := 6) (ret := (some .boolean)) (by decide) rfl ?_
  intro p e s m args below meth c s₁ B hml hv
  obtain ⟨rfl, hsz, hP, hK, hN⟩ := hv
  have hx := B.exec
  have hb := B.bytes
  have hr := B.returns
  have hts0 := atoms_spec (ws := (Cond.code yX9_isEnded cX9_isEnded 6 (some .boolean) :: lw_all)) B.pre
  have hown : s.vm.findClass RX9 = some m.cls := findClass_of_methodNamed B.named
  have hlocks := B.notSynchronized
  subst hsz
  have F : pt_F p m c cX9_isEnded 6 s _ RX9 D cA := ⟨⟨hx, hb, hml, hown, fun w h => hts0 w (List.mem_cons_of_mem _ h)⟩, hK⟩
  have hD : ∀ M, va_D (rt_fr ad s.heap.size) (rt_W cA ad M) := rt_D hI (fun k h => Or.inl ⟨k, h, rfl⟩)
  have hS : va_S (rt_fr ad s.heap.size) s.heap s.heap [] := va_S.rf
  have hl := lv_entry ([.ref (ad 6), .int p1]) (n := 6) (Nat.le_of_ble_eq_true rfl)
  rw [lg_entry_eq]
  generalize (lg_sl ([.ref (ad 6), .int p1]) ++ List.replicate (6 - (lg_sl ([.ref (ad 6), .int p1])).length) Slot.unset).toArray = ls at hl ⊢
  have hl : lv_has ls 6 [(0, .ref (ad 6)), (1, .int p1)] := hl
  have J158 : ∀ (xs0 : Int32) (M : pt_M) (H : Heap) (locs : List Loc) (ls : Array Slot), wjX9_isEnded_158 p1 Q xs0 M → va_P D pt_cl (rt_W cA ad M) H → va_S (rt_fr ad s.heap.size) s.heap H locs → lv_has ls 6 [] → W p l e (headSpec (Cond.code yX9_isEnded cX9_isEnded 6 (some .boolean) :: lw_all) ({ frames := 5, cells := 0, slots := 0, locals := 108 } : Room)).room s m ([.ref (ad 6), .int p1] : List Value).toArray below meth c H locs 0 0 (MQ below (va_Qi Q (rt_B D cA ad) (rt_fr ad s.heap.size)) ([.ref (ad 6), .int p1] : List Value).toArray s 0 0 (rt_fr ad s.heap.size)) (F0 m 158 ls [.int xs0]) := by
    intro xs0 M H locs ls hw hP hS hl
    unfold wjX9_isEnded_158 at hw
    exact W.zret (v := xs0) (ty := .boolean) hx hb hr (pt_zb_n hw.1) (fun t ht hW => ⟨⟨xs0, M, rfl, hw.2, by unfold rt_B; rw [ht]; exact hP⟩, hS.F ht⟩) hS.2.2 dX9_isEnded_158
  have J157 : ∀ (M : pt_M) (H : Heap) (locs : List Loc) (ls : Array Slot), wjX9_isEnded_157 p1 Q M → va_P D pt_cl (rt_W cA ad M) H → va_S (rt_fr ad s.heap.size) s.heap H locs → lv_has ls 6 [] → W p l e (headSpec (Cond.code yX9_isEnded cX9_isEnded 6 (some .boolean) :: lw_all) ({ frames := 5, cells := 0, slots := 0, locals := 108 } : Room)).room s m ([.ref (ad 6), .int p1] : List Value).toArray below meth c H locs 0 0 (MQ below (va_Qi Q (rt_B D cA ad) (rt_fr ad s.heap.size)) ([.ref (ad 6), .int p1] : List Value).toArray s 0 0 (rt_fr ad s.heap.size)) (F0 m 157 ls []) := by
    intro M H locs ls hw hP hS hl
    unfold wjX9_isEnded_157 at hw
    refine lv_iconst (v := 0) hx hb dX9_isEnded_157 (by decide) ?_
    exact J158 0 M _ _ _ hw hP hS (lv_sub hl [] rfl)
  have L20 : ∀ (n20 : Nat) (x2 : Int32) (x3 : Int32) (x4 : Int32) (x5 : Int32) (M : pt_M) (H : Heap) (locs : List Loc) (ls : Array Slot), lpX9_isEnded_20 p1 Q n20 x2 x3 x4 x5 M → va_P D pt_cl (rt_W cA ad M) H → va_S (rt_fr ad s.heap.size) s.heap H locs → lv_has ls 6 [(0, .ref (ad 6)), (1, .int p1), (2, .int x2), (3, .int x3), (4, .int x4), (5, .int x5)] → W p l e (headSpec (Cond.code yX9_isEnded cX9_isEnded 6 (some .boolean) :: lw_all) ({ frames := 5, cells := 0, slots := 0, locals := 108 } : Room)).room s m ([.ref (ad 6), .int p1] : List Value).toArray below meth c H locs 0 0 (MQ below (va_Qi Q (rt_B D cA ad) (rt_fr ad s.heap.size)) ([.ref (ad 6), .int p1] : List Value).toArray s 0 0 (rt_fr ad s.heap.size)) (F0 m 20 ls []) := by
    intro n20
    induction n20 with
    | zero => intro x2 x3 x4 x5 M H locs ls hw; exact hw.elim
    | succ n20 ih20 =>
      have J138 : ∀ (x2 : Int32) (x3 : Int32) (x4 : Int32) (x5 : Int32) (M : pt_M) (H : Heap) (locs : List Loc) (ls : Array Slot), wjX9_isEnded_138 p1 Q (lpX9_isEnded_20 p1 Q n20) x2 x3 x4 x5 M → va_P D pt_cl (rt_W cA ad M) H → va_S (rt_fr ad s.heap.size) s.heap H locs → lv_has ls 6 [(0, .ref (ad 6)), (1, .int p1), (2, .int x2), (3, .int x3), (4, .int x4), (5, .int x5)] → W p l e (headSpec (Cond.code yX9_isEnded cX9_isEnded 6 (some .boolean) :: lw_all) ({ frames := 5, cells := 0, slots := 0, locals := 108 } : Room)).room s m ([.ref (ad 6), .int p1] : List Value).toArray below meth c H locs 0 0 (MQ below (va_Qi Q (rt_B D cA ad) (rt_fr ad s.heap.size)) ([.ref (ad 6), .int p1] : List Value).toArray s 0 0 (rt_fr ad s.heap.size)) (F0 m 138 ls []) := by
        intro x2 x3 x4 x5 M H locs ls hw hP hS hl
        unfold wjX9_isEnded_138 at hw
        obtain ⟨x5_138, ex5_138⟩ : ∃ y : Int32, y = x5 + 1 := ⟨_, rfl⟩
        replace hw := hw x5_138 ex5_138
        refine lv_iinc (v := x5_138) (lv' := [(5, .int x5_138), (0, .ref (ad 6)), (1, .int p1), (2, .int x2), (3, .int x3), (4, .int x4)]) hx hb dX9_isEnded_138 hl (k := 5) rfl (by rw [ex5_138]; rfl) (by decide) rfl (fun ls hl => ?_)
        refine lv_goto (tgt := 20) hx hb dX9_isEnded_141 (by decide) ?_
        exact ih20 x2 x3 x4 x5_138 M _ _ _ hw hP hS (lv_sub hl [1, 2, 3, 4, 5, 0] rfl)
      have J102 : ∀ (x2 : Int32) (x4 : Int32) (x5 : Int32) (xs0 : Int32) (xs1 : Int32) (M : pt_M) (H : Heap) (locs : List Loc) (ls : Array Slot), wjX9_isEnded_102 p1 Q (lpX9_isEnded_20 p1 Q n20) x2 x4 x5 xs0 xs1 M → va_P D pt_cl (rt_W cA ad M) H → va_S (rt_fr ad s.heap.size) s.heap H locs → lv_has ls 6 [(0, .ref (ad 6)), (1, .int p1), (2, .int x2), (4, .int x4), (5, .int x5)] → W p l e (headSpec (Cond.code yX9_isEnded cX9_isEnded 6 (some .boolean) :: lw_all) ({ frames := 5, cells := 0, slots := 0, locals := 108 } : Room)).room s m ([.ref (ad 6), .int p1] : List Value).toArray below meth c H locs 0 0 (MQ below (va_Qi Q (rt_B D cA ad) (rt_fr ad s.heap.size)) ([.ref (ad 6), .int p1] : List Value).toArray s 0 0 (rt_fr ad s.heap.size)) (F0 m 102 ls [.int xs1, .int xs0]) := by
        intro x2 x4 x5 xs0 xs1 M H locs ls hw hP hS hl
        unfold wjX9_isEnded_102 at hw
        refine lv_ior hx hb dX9_isEnded_102 ?_
        refine lv_topi (fun x3_103 ex3_103 => ?_)
        replace hw := hw x3_103 ex3_103
        refine lv_istore_n (lv' := [(3, .int x3_103), (0, .ref (ad 6)), (1, .int p1), (2, .int x2), (4, .int x4), (5, .int x5)]) hx hb dX9_isEnded_103 rfl hl (by decide) rfl (fun ls hl => ?_)
        refine lv_iload hx hb dX9_isEnded_104 (lv_at hl 4 rfl) ?_
        refine lv_aload_n hx hb dX9_isEnded_106 rfl (lv_at hl 1 rfl) ?_
        refine rt_get F hP (rt_c9 _ rt_k6) (rt_l9 rt_k6) inX9 rfl 10 (by decide) kw_1022 rfl rfl dX9_isEnded_107 ?_
        refine rt_getN F hP (rt_c12 _ rt_k0) (rt_l12 rt_k0) inX12 rfl 1 (by decide) kw_1141 rfl rfl dX9_isEnded_110 ?_
        refine lv_iload_n hx hb dX9_isEnded_113 rfl (lv_at hl 2 rfl) ?_
        refine rt_calli (rt_runV (n := 1) (As := [.int p1]) (rest := [.int x4]) F hP hN hS (rt_frs hS.1) (rt_c8 _ rt_k1) (rt_l8 rt_k1) rfl (mtX8_kind l D cA ad hI _ p1 M _ hw) kw_1204 kw_1359 kw_61 kw_1202 kw_1203 ⟨by decide, by decide, by decide +kernel⟩ ⟨rfl, rfl, Nat.le_of_ble_eq_true rfl, Nat.le_of_ble_eq_true rfl⟩ rfl hl.1 rfl (Nat.le_of_ble_eq_true rfl) dX9_isEnded_114 ⟨Nat.zero_le _, Nat.zero_le _⟩) hS (fun _ h => h) (fun r_114 M_114 H locs hw hP hS _ _ => ?_)
        refine lv_iconst (v := 1) hx hb dX9_isEnded_117 (by decide) ?_
        refine lv_icmp_ne (tgt := 130) hx hb dX9_isEnded_118 (by decide) (fun hc118 => ?_) (fun hc118 => ?_)
        · replace hw := hw.1 hc118
          refine lv_iconst (v := 1) hx hb dX9_isEnded_130 (by decide) ?_
          refine lv_goto (tgt := 135) hx hb dX9_isEnded_131 (by decide) ?_
          refine lv_iand hx hb dX9_isEnded_135 ?_
          refine lv_topi (fun x4_136 ex4_136 => ?_)
          replace hw := hw x4_136 ex4_136
          refine lv_istore (lv' := [(4, .int x4_136), (3, .int x3_103), (0, .ref (ad 6)), (1, .int p1), (2, .int x2), (5, .int x5)]) hx hb dX9_isEnded_136 hl (by decide) rfl (fun ls hl => ?_)
          exact J138 x2 x3_103 x4_136 x5 M_114 _ _ _ hw hP hS (lv_sub hl [2, 3, 4, 1, 0, 5] rfl)
        · replace hw := hw.2 hc118
          refine lv_aload_n hx hb dX9_isEnded_121 rfl (lv_at hl 1 rfl) ?_
          refine lv_iload hx hb dX9_isEnded_122 (lv_at hl 5 rfl) ?_
          exact hw.elim
      have J97 : ∀ (x2 : Int32) (x4 : Int32) (x5 : Int32) (xs0 : Int32) (M : pt_M) (H : Heap) (locs : List Loc) (ls : Array Slot), wjX9_isEnded_97 p1 Q (lpX9_isEnded_20 p1 Q n20) x2 x4 x5 xs0 M → va_P D pt_cl (rt_W cA ad M) H → va_S (rt_fr ad s.heap.size) s.heap H locs → lv_has ls 6 [(0, .ref (ad 6)), (1, .int p1), (2, .int x2), (4, .int x4), (5, .int x5)] → W p l e (headSpec (Cond.code yX9_isEnded cX9_isEnded 6 (some .boolean) :: lw_all) ({ frames := 5, cells := 0, slots := 0, locals := 108 } : Room)).room s m ([.ref (ad 6), .int p1] : List Value).toArray below meth c H locs 0 0 (MQ below (va_Qi Q (rt_B D cA ad) (rt_fr ad s.heap.size)) ([.ref (ad 6), .int p1] : List Value).toArray s 0 0 (rt_fr ad s.heap.size)) (F0 m 97 ls [.int xs0]) := by
        intro x2 x4 x5 xs0 M H locs ls hw hP hS hl
        unfold wjX9_isEnded_97 at hw
        refine lv_iconst (v := 0) hx hb dX9_isEnded_97 (by decide) ?_
        refine lv_goto (tgt := 102) hx hb dX9_isEnded_98 (by decide) ?_
        exact J102 x2 x4 x5 xs0 0 M _ _ _ hw hP hS (lv_sub hl [0, 1, 2, 3, 4] rfl)
      intro x2 x3 x4 x5 M H locs ls hw hP hS hl
      replace hw : lbX9_isEnded_20 p1 Q (lpX9_isEnded_20 p1 Q n20) x2 x3 x4 x5 M := hw
      unfold lbX9_isEnded_20 at hw
      refine lv_iload hx hb dX9_isEnded_20 (lv_at hl 5 rfl) ?_
      refine lv_aload_n hx hb dX9_isEnded_22 rfl (lv_at hl 0 rfl) ?_
      refine rt_get F hP (rt_c9 _ rt_k6) (rt_l9 rt_k6) inX9 rfl 10 (by decide) kw_1022 rfl rfl dX9_isEnded_23 ?_
      refine rt_getN F hP (rt_c12 _ rt_k0) (rt_l12 rt_k0) inX12 rfl 1 (by decide) kw_1141 rfl rfl dX9_isEnded_26 ?_
      refine rt_get F hP (rt_c8 _ rt_k1) (rt_l8 rt_k1) inX8 rfl 0 (by decide) kw_986 rfl rfl dX9_isEnded_29 ?_
      refine rt_calli (rt_runV (n := 0) (As := []) (rest := [.int x5]) F hP hN hS (rt_frs hS.1) (rt_c13 _ rt_k2) (rt_l13 rt_k2) rfl (mtJx4a65c_size_8abf5 l D cA ad hI _ 2 rt_k2 M _ hw) kw_1167 kw_1320 kw_64 kw_1165 kw_1166 ⟨by decide, by decide, by decide +kernel⟩ ⟨rfl, rfl, Nat.le_of_ble_eq_true rfl, Nat.le_of_ble_eq_true rfl⟩ rfl hl.1 rfl (Nat.le_of_ble_eq_true rfl) dX9_isEnded_32 ⟨Nat.zero_le _, Nat.zero_le _⟩) hS (fun _ h => h) (fun r_32 M_32 H locs hw hP hS _ _ => ?_)
      refine lv_icmp_ge (tgt := 144) hx hb dX9_isEnded_35 (by decide) (fun hc35 => ?_) (fun hc35 => ?_)
      · replace hw := hw.1 hc35
        refine lv_iload_n hx hb dX9_isEnded_144 rfl (lv_at hl 3 rfl) ?_
        refine lv_if_eq (tgt := 157) hx hb dX9_isEnded_145 (by decide) (fun hc145 => ?_) (fun hc145 => ?_)
        · replace hw := hw.1 hc145
          exact J157 M_32 _ _ _ hw hP hS (lv_sub hl [] rfl)
        · replace hw := hw.2 hc145
          refine lv_iload hx hb dX9_isEnded_148 (lv_at hl 4 rfl) ?_
          refine lv_if_eq (tgt := 157) hx hb dX9_isEnded_150 (by decide) (fun hc150 => ?_) (fun hc150 => ?_)
          · replace hw := hw.1 hc150
            exact J157 M_32 _ _ _ hw hP hS (lv_sub hl [] rfl)
          · replace hw := hw.2 hc150
            refine lv_iconst (v := 1) hx hb dX9_isEnded_153 (by decide) ?_
            refine lv_goto (tgt := 158) hx hb dX9_isEnded_154 (by decide) ?_
            exact J158 1 M_32 _ _ _ hw hP hS (lv_sub hl [] rfl)
      · replace hw := hw.2 hc35
        refine lv_iload_n hx hb dX9_isEnded_38 rfl (lv_at hl 2 rfl) ?_
        refine lv_iload hx hb dX9_isEnded_39 (lv_at hl 5 rfl) ?_
        refine rt_calli (rt_runSN (n := 2) (As := [.int x2, .int x5]) (rest := []) F hP hN hS (rt_frs hS.1) (mtX12_has l D cA ad hI _ x2 x5 M_32 _ hw) kw_1226 kw_1321 kw_60 kw_1225 ⟨by decide, by decide, by decide +kernel⟩ ⟨rfl, rfl, Nat.le_of_ble_eq_true rfl, Nat.le_of_ble_eq_true rfl⟩ rfl hl.1 rfl (Nat.le_of_ble_eq_true rfl) dX9_isEnded_41 ⟨Nat.zero_le _, Nat.zero_le _⟩) hS (fun _ h => h) (fun r_41 M_41 H locs hw hP hS _ _ => ?_)
        refine lv_if_ne (tgt := 50) hx hb dX9_isEnded_44 (by decide) (fun hc44 => ?_) (fun hc44 => ?_)
        · replace hw := hw.1 hc44
          refine lv_iload_n hx hb dX9_isEnded_50 rfl (lv_at hl 3 rfl) ?_
          refine lv_aload_n hx hb dX9_isEnded_51 rfl (lv_at hl 0 rfl) ?_
          refine rt_get F hP (rt_c9 _ rt_k6) (rt_l9 rt_k6) inX9 rfl 10 (by decide) kw_1022 rfl rfl dX9_isEnded_52 ?_
          refine rt_getN F hP (rt_c12 _ rt_k0) (rt_l12 rt_k0) inX12 rfl 1 (by decide) kw_1141 rfl rfl dX9_isEnded_55 ?_
          refine lv_iload_n hx hb dX9_isEnded_58 rfl (lv_at hl 1 rfl) ?_
          refine rt_calli (rt_runV (n := 1) (As := [.int p1]) (rest := [.int x3]) F hP hN hS (rt_frs hS.1) (rt_c8 _ rt_k1) (rt_l8 rt_k1) rfl (mtX8_kind l D cA ad hI _ p1 M_41 _ hw) kw_1204 kw_1359 kw_61 kw_1202 kw_1203 ⟨by decide, by decide, by decide +kernel⟩ ⟨rfl, rfl, Nat.le_of_ble_eq_true rfl, Nat.le_of_ble_eq_true rfl⟩ rfl hl.1 rfl (Nat.le_of_ble_eq_true rfl) dX9_isEnded_59 ⟨Nat.zero_le _, Nat.zero_le _⟩) hS (fun _ h => h) (fun r_59 M_59 H locs hw hP hS _ _ => ?_)
          refine lv_if_ne (tgt := 101) hx hb dX9_isEnded_62 (by decide) (fun hc62 => ?_) (fun hc62 => ?_)
          · replace hw := hw.1 hc62
            refine lv_iconst (v := 1) hx hb dX9_isEnded_101 (by decide) ?_
            exact J102 x2 x4 x5 x3 1 M_59 _ _ _ hw hP hS (lv_sub hl [0, 1, 2, 4, 5] rfl)
          · replace hw := hw.2 hc62
            refine lv_aload_n hx hb dX9_isEnded_65 rfl (lv_at hl 0 rfl) ?_
            refine rt_get F hP (rt_c9 _ rt_k6) (rt_l9 rt_k6) inX9 rfl 1 (by decide) kw_1005 rfl rfl dX9_isEnded_66 ?_
            refine lv_iload hx hb dX9_isEnded_69 (lv_at hl 5 rfl) ?_
            refine rt_calli (rt_runSN (n := 2) (As := [.int (M_59 6 1), .int x5]) (rest := [.int x3]) F hP hN hS (rt_frs hS.1) (mtX12_has l D cA ad hI _ (M_59 6 1) x5 M_59 _ hw) kw_1226 kw_1321 kw_60 kw_1225 ⟨by decide, by decide, by decide +kernel⟩ ⟨rfl, rfl, Nat.le_of_ble_eq_true rfl, Nat.le_of_ble_eq_true rfl⟩ rfl hl.1 rfl (Nat.le_of_ble_eq_true rfl) dX9_isEnded_71 ⟨Nat.zero_le _, Nat.zero_le _⟩) hS (fun _ h => h) (fun r_71 M_71 H locs hw hP hS _ _ => ?_)
            refine lv_if_eq (tgt := 97) hx hb dX9_isEnded_74 (by decide) (fun hc74 => ?_) (fun hc74 => ?_)
            · replace hw := hw.1 hc74
              exact J97 x2 x4 x5 x3 M_71 _ _ _ hw hP hS (lv_sub hl [0, 1, 2, 4, 5] rfl)
            · replace hw := hw.2 hc74
              refine lv_aload_n hx hb dX9_isEnded_77 rfl (lv_at hl 0 rfl) ?_
              refine rt_get F hP (rt_c9 _ rt_k6) (rt_l9 rt_k6) inX9 rfl 10 (by decide) kw_1022 rfl rfl dX9_isEnded_78 ?_
              refine rt_getN F hP (rt_c12 _ rt_k0) (rt_l12 rt_k0) inX12 rfl 1 (by decide) kw_1141 rfl rfl dX9_isEnded_81 ?_
              refine lv_iload hx hb dX9_isEnded_84 (lv_at hl 5 rfl) ?_
              refine rt_calli (rt_runV (n := 1) (As := [.int x5]) (rest := [.int x3]) F hP hN hS (rt_frs hS.1) (rt_c8 _ rt_k1) (rt_l8 rt_k1) rfl (mtX8_kind l D cA ad hI _ x5 M_71 _ hw) kw_1204 kw_1359 kw_61 kw_1202 kw_1203 ⟨by decide, by decide, by decide +kernel⟩ ⟨rfl, rfl, Nat.le_of_ble_eq_true rfl, Nat.le_of_ble_eq_true rfl⟩ rfl hl.1 rfl (Nat.le_of_ble_eq_true rfl) dX9_isEnded_86 ⟨Nat.zero_le _, Nat.zero_le _⟩) hS (fun _ h => h) (fun r_86 M_86 H locs hw hP hS _ _ => ?_)
              refine lv_iconst (v := 2) hx hb dX9_isEnded_89 (by decide) ?_
              refine lv_icmp_ne (tgt := 97) hx hb dX9_isEnded_90 (by decide) (fun hc90 => ?_) (fun hc90 => ?_)
              · replace hw := hw.1 hc90
                exact J97 x2 x4 x5 x3 M_86 _ _ _ hw hP hS (lv_sub hl [0, 1, 2, 4, 5] rfl)
              · replace hw := hw.2 hc90
                refine lv_iconst (v := 1) hx hb dX9_isEnded_93 (by decide) ?_
                refine lv_goto (tgt := 102) hx hb dX9_isEnded_94 (by decide) ?_
                exact J102 x2 x4 x5 x3 1 M_86 _ _ _ hw hP hS (lv_sub hl [0, 1, 2, 4, 5] rfl)
        · replace hw := hw.2 hc44
          refine lv_goto (tgt := 138) hx hb dX9_isEnded_47 (by decide) ?_
          exact J138 x2 x3 x4 x5 M_41 _ _ _ hw hP hS (lv_sub hl [0, 1, 2, 3, 4, 5] rfl)
  unfold wpX9_isEnded at hw
  refine lv_aload_n hx hb dX9_isEnded_0 rfl (lv_at hl 0 rfl) ?_
  refine rt_get F hP (rt_c9 _ rt_k6) (rt_l9 rt_k6) inX9 rfl 10 (by decide) kw_1022 rfl rfl dX9_isEnded_1 ?_
  refine rt_getN F hP (rt_c12 _ rt_k0) (rt_l12 rt_k0) inX12 rfl 1 (by decide) kw_1141 rfl rfl dX9_isEnded_4 ?_
  refine lv_iload_n hx hb dX9_isEnded_7 rfl (lv_at hl 1 rfl) ?_
  refine rt_calli (rt_runV (n := 1) (As := [.int p1]) (rest := []) F hP hN hS (rt_frs hS.1) (rt_c8 _ rt_k1) (rt_l8 rt_k1) rfl (mtX8_parts l D cA ad hI _ p1 M _ hw) kw_1214 kw_1390 kw_61 kw_1212 kw_1213 ⟨by decide, by decide, by decide +kernel⟩ ⟨rfl, rfl, Nat.le_of_ble_eq_true rfl, Nat.le_of_ble_eq_true rfl⟩ rfl hl.1 rfl (Nat.le_of_ble_eq_true rfl) dX9_isEnded_8 ⟨Nat.zero_le _, Nat.zero_le _⟩) hS (fun _ h => h) (fun r_8 M_8 H locs hw hP hS _ _ => ?_)
  refine lv_istore_n (lv' := [(2, .int r_8), (0, .ref (ad 6)), (1, .int p1)]) hx hb dX9_isEnded_11 rfl hl (by decide) rfl (fun ls hl => ?_)
  refine lv_iconst (v := 0) hx hb dX9_isEnded_12 (by decide) ?_
  refine lv_istore_n (lv' := [(3, .int 0), (2, .int r_8), (0, .ref (ad 6)), (1, .int p1)]) hx hb dX9_isEnded_13 rfl hl (by decide) rfl (fun ls hl => ?_)
  refine lv_iconst (v := 1) hx hb dX9_isEnded_14 (by decide) ?_
  refine lv_istore (lv' := [(4, .int 1), (3, .int 0), (2, .int r_8), (0, .ref (ad 6)), (1, .int p1)]) hx hb dX9_isEnded_15 hl (by decide) rfl (fun ls hl => ?_)
  refine lv_iconst (v := 0) hx hb dX9_isEnded_17 (by decide) ?_
  refine lv_istore (lv' := [(5, .int 0), (4, .int 1), (3, .int 0), (2, .int r_8), (0, .ref (ad 6)), (1, .int p1)]) hx hb dX9_isEnded_18 hl (by decide) rfl (fun ls hl => ?_)
  obtain ⟨n_, hw⟩ := hw
  exact L20 n_ r_8 0 1 0 M_8 _ _ _ hw hP hS (lv_sub hl [4, 5, 3, 2, 1, 0] rfl)
-- ===== X9_act
def wjX9_act_55  (Q : pt_M → Prop)   (M : pt_M) : Prop :=
  ((0 : Int32) = 3 → wpJx4a65c_size_8abf5 11 M (fun (r_67 : Int32) (M_67 : pt_M) => (8 ≤ r_67 → ∀ M_99 : pt_M, M_99 = pt_st M_67 6 8 ((M_67 6 8) + 1) → Q M_99) ∧ (¬ 8 ≤ r_67 → False))) ∧ (¬ (0 : Int32) = 3 → Q M)
def wjX9_act_18  (Q : pt_M → Prop)   (M : pt_M) : Prop :=
  (¬ (0 : Int32) = 2 → wjX9_act_55 Q M) ∧ ((0 : Int32) = 2 → vp_in (0 : Int32) 4 ∧ (∀ r_48 : Int32, r_48 = (if ((M 9 (Int32.toNatClampNeg (0 : Int32))) + (0 : Int32)) < 99 then ((M 9 (Int32.toNatClampNeg (0 : Int32))) + (0 : Int32)) else 99) → ∀ r_51 : Int32, r_51 = (if (-99) < r_48 then r_48 else (-99)) → vp_in (0 : Int32) 4 ∧ ∀ M_54 : pt_M, M_54 = pt_st M 9 (Int32.toNatClampNeg (0 : Int32)) r_51 → wjX9_act_55 Q M_54))
def wpX9_act  (M : pt_M) (Q : pt_M → Prop) : Prop :=
  (¬ (0 : Int32) = 1 → wjX9_act_18 Q M) ∧ ((0 : Int32) = 1 → vp_in (0 : Int32) 4 ∧ ∀ M_17 : pt_M, M_17 = pt_st M 9 (Int32.toNatClampNeg (0 : Int32)) (0 : Int32) → wjX9_act_18 Q M_17)
set_option maxHeartbeats 4000000 in
set_option maxRecDepth 100000 in
theorem mtX9_act (l : Launch) (D : va_G) (cA : Nat → ClassId) (ad : Nat → Nat) (hI : rt_I ad) (sz : Nat) (M : pt_M) (Q : pt_M → Prop) (hw : wpX9_act M Q) : Met l yX9_act (Cond.code yX9_act cX9_act 2 none :: lw_all) ({ frames := 1, cells := 0, slots := 0, locals := 21 } : Room) (va_Pc [.ref (ad 6), .ref (ad 13)] (rt_P D cA ad sz M)) (va_Qv Q (rt_B D cA ad) (rt_fr ad sz)) 0 0 (rt_fr ad sz) := by
  refine Met.ofW (cc := cX9_act) (maxL := 2) (ret := none) (by decide) rfl ?_
  intro p e s m args below meth c s₁ B hml hv
  obtain ⟨rfl, hsz, hP, hK, hN⟩ := hv
  have hx := B.exec
  have hb := B.bytes
  have hr := B.returns
  have hts0 := atoms_spec (ws := (Cond.code yX9_act cX9_act 2 none :: lw_all)) B.pre
  have hown : s.vm.findClass RX9 = some m.cls := findClass_of_methodNamed B.named
  have hlocks := B.notSynchronized
  subst hsz
  have F : pt_F p m c cX9_act 2 s _ RX9 D cA := ⟨⟨hx, hb, hml, hown, fun w h => hts0 w (List.mem_cons_of_mem _ h)⟩, hK⟩
  have hD : ∀ M, va_D (rt_fr ad s.heap.size) (rt_W cA ad M) := rt_D hI (fun k h => Or.inl ⟨k, h, rfl⟩)
  have hS : va_S (rt_fr ad s.heap.size) s.heap s.heap [] := va_S.rf
  have hl := lv_entry ([.ref (ad 6), .ref (ad 13)]) (n := 2) (Nat.le_of_ble_eq_true rfl)
  rw [lg_entry_eq]
  generalize (lg_sl ([.ref (ad 6), .ref (ad 13)]) ++ List.replicate (2 - (lg_sl ([.ref (ad 6), .ref (ad 13)])).length) Slot.unset).toArray = ls at hl ⊢
  have hl : lv_has ls 2 [(0, .ref (ad 6)), (1, .ref (ad 13))] := hl
  have J55 : ∀ (M : pt_M) (H : Heap) (locs : List Loc) (ls : Array Slot), wjX9_act_55 Q M → va_P D pt_cl (rt_W cA ad M) H → va_S (rt_fr ad s.heap.size) s.heap H locs → lv_has ls 2 [(0, .ref (ad 6)), (1, .ref (ad 13))] → W p l e (headSpec (Cond.code yX9_act cX9_act 2 none :: lw_all) ({ frames := 1, cells := 0, slots := 0, locals := 21 } : Room)).room s m ([.ref (ad 6), .ref (ad 13)] : List Value).toArray below meth c H locs 0 0 (MQ below (va_Qv Q (rt_B D cA ad) (rt_fr ad s.heap.size)) ([.ref (ad 6), .ref (ad 13)] : List Value).toArray s 0 0 (rt_fr ad s.heap.size)) (F0 m 55 ls []) := by
    intro M H locs ls hw hP hS hl
    unfold wjX9_act_55 at hw
    refine lv_aload_n hx hb dX9_act_55 rfl (lv_at hl 1 rfl) ?_
    refine lv_iconst (v := 0) hx hb dX9_act_56 (by decide) ?_
    refine rt_iald13 F hN hS (show vp_in 0 3 from by unfold vp_in; decide) dX9_act_57 ?_
    refine lv_iconst (v := 3) hx hb dX9_act_58 (by decide) ?_
    refine lv_icmp_eq (tgt := 63) hx hb dX9_act_59 (by decide) (fun hc59 => ?_) (fun hc59 => ?_)
    · replace hw := hw.1 hc59
      refine lv_aload_n hx hb dX9_act_63 rfl (lv_at hl 0 rfl) ?_
      refine rt_get F hP (rt_c9 _ rt_k6) (rt_l9 rt_k6) inX9 rfl 6 (by decide) kw_1015 rfl rfl dX9_act_64 ?_
      refine rt_calli (rt_runV (n := 0) (As := []) (rest := []) F hP hN hS (rt_frs hS.1) (rt_c13 _ rt_k11) (rt_l13 rt_k11) rfl (mtJx4a65c_size_8abf5 l D cA ad hI _ 11 rt_k11 M _ hw) kw_1167 kw_1320 kw_64 kw_1165 kw_1166 ⟨by decide, by decide, by decide +kernel⟩ ⟨rfl, rfl, Nat.le_of_ble_eq_true rfl, Nat.le_of_ble_eq_true rfl⟩ rfl hl.1 rfl (Nat.le_of_ble_eq_true rfl) dX9_act_67 ⟨Nat.zero_le _, Nat.zero_le _⟩) hS (fun _ h => h) (fun r_67 M_67 H locs hw hP hS _ _ => ?_)
      refine lv_bipush (v := 8) hx hb dX9_act_70 (by decide) ?_
      refine lv_icmp_ge (tgt := 92) hx hb dX9_act_72 (by decide) (fun hc72 => ?_) (fun hc72 => ?_)
      · replace hw := hw.1 hc72
        refine lv_aload_n hx hb dX9_act_92 rfl (lv_at hl 0 rfl) ?_
        refine lv_dup hx hb dX9_act_93 rfl ?_
        refine rt_get F hP (rt_c9 _ rt_k6) (rt_l9 rt_k6) inX9 rfl 8 (by decide) kw_1018 rfl rfl dX9_act_94 ?_
        refine lv_iconst (v := 1) hx hb dX9_act_97 (by decide) ?_
        refine lv_iadd hx hb dX9_act_98 ?_
        refine rt_put F hP hD hS (rt_c9 _ rt_k6) (rt_l9 rt_k6) inX9 tyX9 tyX9_ok nmX9 rfl 8 (by decide) kw_1018 rfl rfl rfl rfl (Nat.le_of_ble_eq_true rfl) (rt_c9 _ rt_k6) dX9_act_99 (fun M_99 H locs eM_99 hP hS => ?_)
        replace hw := hw M_99 eM_99
        exact W.vret hx hb hr (fun t ht hW => ⟨⟨M_99, rfl, hw, by unfold rt_B; rw [ht]; exact hP⟩, hS.F ht⟩) hS.2.2 dX9_act_102
      · replace hw := hw.2 hc72
        refine lv_aload_n hx hb dX9_act_75 rfl (lv_at hl 0 rfl) ?_
        refine rt_get F hP (rt_c9 _ rt_k6) (rt_l9 rt_k6) inX9 rfl 6 (by decide) kw_1015 rfl rfl dX9_act_76 ?_
        refine lv_aload_n hx hb dX9_act_79 rfl (lv_at hl 1 rfl) ?_
        refine lv_iconst (v := 1) hx hb dX9_act_80 (by decide) ?_
        refine rt_iald13 F hN hS (show vp_in 1 3 from by unfold vp_in; decide) dX9_act_81 ?_
        exact hw.elim
    · replace hw := hw.2 hc59
      exact W.vret hx hb hr (fun t ht hW => ⟨⟨M, rfl, hw, by unfold rt_B; rw [ht]; exact hP⟩, hS.F ht⟩) hS.2.2 dX9_act_62
  have J18 : ∀ (M : pt_M) (H : Heap) (locs : List Loc) (ls : Array Slot), wjX9_act_18 Q M → va_P D pt_cl (rt_W cA ad M) H → va_S (rt_fr ad s.heap.size) s.heap H locs → lv_has ls 2 [(0, .ref (ad 6)), (1, .ref (ad 13))] → W p l e (headSpec (Cond.code yX9_act cX9_act 2 none :: lw_all) ({ frames := 1, cells := 0, slots := 0, locals := 21 } : Room)).room s m ([.ref (ad 6), .ref (ad 13)] : List Value).toArray below meth c H locs 0 0 (MQ below (va_Qv Q (rt_B D cA ad) (rt_fr ad s.heap.size)) ([.ref (ad 6), .ref (ad 13)] : List Value).toArray s 0 0 (rt_fr ad s.heap.size)) (F0 m 18 ls []) := by
    intro M H locs ls hw hP hS hl
    unfold wjX9_act_18 at hw
    refine lv_aload_n hx hb dX9_act_18 rfl (lv_at hl 1 rfl) ?_
    refine lv_iconst (v := 0) hx hb dX9_act_19 (by decide) ?_
    refine rt_iald13 F hN hS (show vp_in 0 3 from by unfold vp_in; decide) dX9_act_20 ?_
    refine lv_iconst (v := 2) hx hb dX9_act_21 (by decide) ?_
    refine lv_icmp_ne (tgt := 55) hx hb dX9_act_22 (by decide) (fun hc22 => ?_) (fun hc22 => ?_)
    · replace hw := hw.1 hc22
      exact J55 M _ _ _ hw hP hS (lv_sub hl [0, 1] rfl)
    · replace hw := hw.2 hc22
      refine lv_aload_n hx hb dX9_act_25 rfl (lv_at hl 0 rfl) ?_
      refine rt_get F hP (rt_c9 _ rt_k6) (rt_l9 rt_k6) inX9 rfl 4 (by decide) kw_1011 rfl rfl dX9_act_26 ?_
      refine lv_aload_n hx hb dX9_act_29 rfl (lv_at hl 1 rfl) ?_
      refine lv_iconst (v := 1) hx hb dX9_act_30 (by decide) ?_
      refine rt_iald13 F hN hS (show vp_in 1 3 from by unfold vp_in; decide) dX9_act_31 ?_
      refine lv_bipush (v := (-99)) hx hb dX9_act_32 (by decide) ?_
      refine lv_bipush (v := 99) hx hb dX9_act_34 (by decide) ?_
      refine lv_aload_n hx hb dX9_act_36 rfl (lv_at hl 0 rfl) ?_
      refine rt_get F hP (rt_c9 _ rt_k6) (rt_l9 rt_k6) inX9 rfl 4 (by decide) kw_1011 rfl rfl dX9_act_37 ?_
      refine lv_aload_n hx hb dX9_act_40 rfl (lv_at hl 1 rfl) ?_
      refine lv_iconst (v := 1) hx hb dX9_act_41 (by decide) ?_
      refine rt_iald13 F hN hS (show vp_in 1 3 from by unfold vp_in; decide) dX9_act_42 ?_
      have hv43 := hw.1
      replace hw := hw.2
      refine rt_iald F hP rt_a9 hv43 dX9_act_43 ?_
      refine lv_aload_n hx hb dX9_act_44 rfl (lv_at hl 1 rfl) ?_
      refine lv_iconst (v := 2) hx hb dX9_act_45 (by decide) ?_
      refine rt_iald13 F hN hS (show vp_in 2 3 from by unfold vp_in; decide) dX9_act_46 ?_
      refine lv_iadd hx hb dX9_act_47 ?_
      refine va_mmin hx hb (hml.trans hl.1.symm) hown (F.1.2.2.2.2 _ kw_1328) (F.1.2.2.2.2 _ kw_735) (F.1.2.2.2.2 _ kw_68) (F.1.2.2.2.2 _ kw_736) (Nat.le_of_ble_eq_true rfl) (Nat.le_of_ble_eq_true rfl) (Nat.zero_le _) (Nat.zero_le _) dX9_act_48 ?_
      refine lv_topi (fun r_48 er_48 => ?_)
      replace hw := hw r_48 er_48
      refine va_mmax hx hb (hml.trans hl.1.symm) hown (F.1.2.2.2.2 _ kw_1329) (F.1.2.2.2.2 _ kw_738) (F.1.2.2.2.2 _ kw_68) (F.1.2.2.2.2 _ kw_739) (Nat.le_of_ble_eq_true rfl) (Nat.le_of_ble_eq_true rfl) (Nat.zero_le _) (Nat.zero_le _) dX9_act_51 ?_
      refine lv_topi (fun r_51 er_51 => ?_)
      replace hw := hw r_51 er_51
      have hv54 := hw.1
      replace hw := hw.2
      refine rt_iast F hP hD hS rt_a9 hv54 dX9_act_54 (fun M_54 H locs eM_54 hP hS => ?_)
      replace hw := hw M_54 eM_54
      exact J55 M_54 _ _ _ hw hP hS (lv_sub hl [0, 1] rfl)
  unfold wpX9_act at hw
  refine lv_aload_n hx hb dX9_act_0 rfl (lv_at hl 1 rfl) ?_
  refine lv_iconst (v := 0) hx hb dX9_act_1 (by decide) ?_
  refine rt_iald13 F hN hS (show vp_in 0 3 from by unfold vp_in; decide) dX9_act_2 ?_
  refine lv_iconst (v := 1) hx hb dX9_act_3 (by decide) ?_
  refine lv_icmp_ne (tgt := 18) hx hb dX9_act_4 (by decide) (fun hc4 => ?_) (fun hc4 => ?_)
  · replace hw := hw.1 hc4
    exact J18 M _ _ _ hw hP hS (lv_sub hl [0, 1] rfl)
  · replace hw := hw.2 hc4
    refine lv_aload_n hx hb dX9_act_7 rfl (lv_at hl 0 rfl) ?_
    refine rt_get F hP (rt_c9 _ rt_k6) (rt_l9 rt_k6) inX9 rfl 4 (by decide) kw_1011 rfl rfl dX9_act_8 ?_
    refine lv_aload_n hx hb dX9_act_11 rfl (lv_at hl 1 rfl) ?_
    refine lv_iconst (v := 1) hx hb dX9_act_12 (by decide) ?_
    refine rt_iald13 F hN hS (show vp_in 1 3 from by unfold vp_in; decide) dX9_act_13 ?_
    refine lv_aload_n hx hb dX9_act_14 rfl (lv_at hl 1 rfl) ?_
    refine lv_iconst (v := 2) hx hb dX9_act_15 (by decide) ?_
    refine rt_iald13 F hN hS (show vp_in 2 3 from by unfold vp_in; decide) dX9_act_16 ?_
    have hv17 := hw.1
    replace hw := hw.2
    refine rt_iast F hP hD hS rt_a9 hv17 dX9_act_17 (fun M_17 H locs eM_17 hP hS => ?_)
    replace hw := hw M_17 eM_17
    exact J18 M_17 _ _ _ hw hP hS (lv_sub hl [0, 1] rfl)
-- ===== X9_enter
def wjX9_enter_73 (p1 : Int32) (Q : pt_M → Prop) (R2 : Int32 → pt_M → Prop) (x2 : Int32) (M : pt_M) : Prop :=
  ∀ x2_73 : Int32, x2_73 = x2 + 1 → R2 x2_73 M
def lbX9_enter_2 (p1 : Int32) (Q : pt_M → Prop)  (R2 : Int32 → pt_M → Prop) (x2 : Int32) (M : pt_M) : Prop :=
  wpJx4a65c_size_8abf5 2 M (fun (r_13 : Int32) (M_13 : pt_M) => (r_13 ≤ x2 → Q M_13) ∧ (¬ r_13 ≤ x2 → wpX12_has p1 x2 M_13 (fun (r_21 : Int32) (M_21 : pt_M) => (¬ r_21 = 0 → ∀ M_39 : pt_M, M_39 = pt_st M_21 6 1 ((M_21 6 1) ||| (1 <<< (x2 &&& 31))) → vp_in x2 20 ∧ ∀ M_48 : pt_M, M_48 = pt_st M_39 7 (Int32.toNatClampNeg x2) 0 → wpJx4a65c_get_915e3 x2 M_48 (fun (M_61 : pt_M) => wpX9_act M_61 (fun (M_70 : pt_M) => wjX9_enter_73 p1 Q R2 x2 M_70))) ∧ (r_21 = 0 → wjX9_enter_73 p1 Q R2 x2 M_21))))
def lpX9_enter_2 (p1 : Int32) (Q : pt_M → Prop)  : Nat → Int32 → pt_M → Prop
  | 0 => fun _ _ => False
  | n + 1 => fun x2 M => lbX9_enter_2 p1 Q (lpX9_enter_2 p1 Q n) x2 M
def wpX9_enter (p1 : Int32) (M : pt_M) (Q : pt_M → Prop) : Prop :=
  ∃ n : Nat, lpX9_enter_2 p1 Q n 0 M
set_option maxHeartbeats 4000000 in
set_option maxRecDepth 100000 in
theorem mtX9_enter (l : Launch) (D : va_G) (cA : Nat → ClassId) (ad : Nat → Nat) (hI : rt_I ad) (sz : Nat) (p1 : Int32) (M : pt_M) (Q : pt_M → Prop) (hw : wpX9_enter p1 M Q) : Met l yX9_enter (Cond.code yX9_enter cX9_enter 3 none :: lw_all) ({ frames := 3, cells := 0, slots := 0, locals := 64 } : Room) (va_Pc [.ref (ad 6), .int p1] (rt_P D cA ad sz M)) (va_Qv Q (rt_B D cA ad) (rt_fr ad sz)) 0 0 (rt_fr ad sz) := by
  refine Met.ofW (cc := cX9_enter) (maxL := 3) (ret := none) (by decide) rfl ?_
  intro p e s m args below meth c s₁ B hml hv
  obtain ⟨rfl, hsz, hP, hK, hN⟩ := hv
  have hx := B.exec
  have hb := B.bytes
  have hr := B.returns
  have hts0 := atoms_spec (ws := (Cond.code yX9_enter cX9_enter 3 none :: lw_all)) B.pre
  have hown : s.vm.findClass RX9 = some m.cls := findClass_of_methodNamed B.named
  have hlocks := B.notSynchronized
  subst hsz
  have F : pt_F p m c cX9_enter 3 s _ RX9 D cA := ⟨⟨hx, hb, hml, hown, fun w h => hts0 w (List.mem_cons_of_mem _ h)⟩, hK⟩
  have hD : ∀ M, va_D (rt_fr ad s.heap.size) (rt_W cA ad M) := rt_D hI (fun k h => Or.inl ⟨k, h, rfl⟩)
  have hS : va_S (rt_fr ad s.heap.size) s.heap s.heap [] := va_S.rf
  have hl := lv_entry ([.ref (ad 6), .int p1]) (n := 3) (Nat.le_of_ble_eq_true rfl)
  rw [lg_entry_eq]
  generalize (lg_sl ([.ref (ad 6), .int p1]) ++ List.replicate (3 - (lg_sl ([.ref (ad 6), .int p1])).length) Slot.unset).toArray = ls at hl ⊢
  have hl : lv_has ls 3 [(0, .ref (ad 6)), (1, .int p1)] := hl
  have L2 : ∀ (n2 : Nat) (x2 : Int32) (M : pt_M) (H : Heap) (locs : List Loc) (ls : Array Slot), lpX9_enter_2 p1 Q n2 x2 M → va_P D pt_cl (rt_W cA ad M) H → va_S (rt_fr ad s.heap.size) s.heap H locs → lv_has ls 3 [(0, .ref (ad 6)), (1, .int p1), (2, .int x2)] → W p l e (headSpec (Cond.code yX9_enter cX9_enter 3 none :: lw_all) ({ frames := 3, cells := 0, slots := 0, locals := 64 } : Room)).room s m ([.ref (ad 6), .int p1] : List Value).toArray below meth c H locs 0 0 (MQ below (va_Qv Q (rt_B D cA ad) (rt_fr ad s.heap.size)) ([.ref (ad 6), .int p1] : List Value).toArray s 0 0 (rt_fr ad s.heap.size)) (F0 m 2 ls []) := by
    intro n2
    induction n2 with
    | zero => intro x2 M H locs ls hw; exact hw.elim
    | succ n2 ih2 =>
      have J73 : ∀ (x2 : Int32) (M : pt_M) (H : Heap) (locs : List Loc) (ls : Array Slot), wjX9_enter_73 p1 Q (lpX9_enter_2 p1 Q n2) x2 M → va_P D pt_cl (rt_W cA ad M) H → va_S (rt_fr ad s.heap.size) s.heap H locs → lv_has ls 3 [(0, .ref (ad 6)), (1, .int p1), (2, .int x2)] → W p l e (headSpec (Cond.code yX9_enter cX9_enter 3 none :: lw_all) ({ frames := 3, cells := 0, slots := 0, locals := 64 } : Room)).room s m ([.ref (ad 6), .int p1] : List Value).toArray below meth c H locs 0 0 (MQ below (va_Qv Q (rt_B D cA ad) (rt_fr ad s.heap.size)) ([.ref (ad 6), .int p1] : List Value).toArray s 0 0 (rt_fr ad s.heap.size)) (F0 m 73 ls []) := by
        intro x2 M H locs ls hw hP hS hl
        unfold wjX9_enter_73 at hw
        obtain ⟨x2_73, ex2_73⟩ : ∃ y : Int32, y = x2 + 1 := ⟨_, rfl⟩
        replace hw := hw x2_73 ex2_73
        refine lv_iinc (v := x2_73) (lv' := [(2, .int x2_73), (0, .ref (ad 6)), (1, .int p1)]) hx hb dX9_enter_73 hl (k := 2) rfl (by rw [ex2_73]; rfl) (by decide) rfl (fun ls hl => ?_)
        refine lv_goto (tgt := 2) hx hb dX9_enter_76 (by decide) ?_
        exact ih2 x2_73 M _ _ _ hw hP hS (lv_sub hl [1, 2, 0] rfl)
      intro x2 M H locs ls hw hP hS hl
      replace hw : lbX9_enter_2 p1 Q (lpX9_enter_2 p1 Q n2) x2 M := hw
      unfold lbX9_enter_2 at hw
      refine lv_iload_n hx hb dX9_enter_2 rfl (lv_at hl 2 rfl) ?_
      refine lv_aload_n hx hb dX9_enter_3 rfl (lv_at hl 0 rfl) ?_
      refine rt_get F hP (rt_c9 _ rt_k6) (rt_l9 rt_k6) inX9 rfl 10 (by decide) kw_1022 rfl rfl dX9_enter_4 ?_
      refine rt_getN F hP (rt_c12 _ rt_k0) (rt_l12 rt_k0) inX12 rfl 1 (by decide) kw_1141 rfl rfl dX9_enter_7 ?_
      refine rt_get F hP (rt_c8 _ rt_k1) (rt_l8 rt_k1) inX8 rfl 0 (by decide) kw_986 rfl rfl dX9_enter_10 ?_
      refine rt_calli (rt_runV (n := 0) (As := []) (rest := [.int x2]) F hP hN hS (rt_frs hS.1) (rt_c13 _ rt_k2) (rt_l13 rt_k2) rfl (mtJx4a65c_size_8abf5 l D cA ad hI _ 2 rt_k2 M _ hw) kw_1167 kw_1320 kw_64 kw_1165 kw_1166 ⟨by decide, by decide, by decide +kernel⟩ ⟨rfl, rfl, Nat.le_of_ble_eq_true rfl, Nat.le_of_ble_eq_true rfl⟩ rfl hl.1 rfl (Nat.le_of_ble_eq_true rfl) dX9_enter_13 ⟨Nat.zero_le _, Nat.zero_le _⟩) hS (fun _ h => h) (fun r_13 M_13 H locs hw hP hS _ _ => ?_)
      refine lv_icmp_ge (tgt := 79) hx hb dX9_enter_16 (by decide) (fun hc16 => ?_) (fun hc16 => ?_)
      · replace hw := hw.1 hc16
        exact W.vret hx hb hr (fun t ht hW => ⟨⟨M_13, rfl, hw, by unfold rt_B; rw [ht]; exact hP⟩, hS.F ht⟩) hS.2.2 dX9_enter_79
      · replace hw := hw.2 hc16
        refine lv_iload_n hx hb dX9_enter_19 rfl (lv_at hl 1 rfl) ?_
        refine lv_iload_n hx hb dX9_enter_20 rfl (lv_at hl 2 rfl) ?_
        refine rt_calli (rt_runSN (n := 2) (As := [.int p1, .int x2]) (rest := []) F hP hN hS (rt_frs hS.1) (mtX12_has l D cA ad hI _ p1 x2 M_13 _ hw) kw_1226 kw_1321 kw_60 kw_1225 ⟨by decide, by decide, by decide +kernel⟩ ⟨rfl, rfl, Nat.le_of_ble_eq_true rfl, Nat.le_of_ble_eq_true rfl⟩ rfl hl.1 rfl (Nat.le_of_ble_eq_true rfl) dX9_enter_21 ⟨Nat.zero_le _, Nat.zero_le _⟩) hS (fun _ h => h) (fun r_21 M_21 H locs hw hP hS _ _ => ?_)
        refine lv_if_ne (tgt := 30) hx hb dX9_enter_24 (by decide) (fun hc24 => ?_) (fun hc24 => ?_)
        · replace hw := hw.1 hc24
          refine lv_aload_n hx hb dX9_enter_30 rfl (lv_at hl 0 rfl) ?_
          refine lv_dup hx hb dX9_enter_31 rfl ?_
          refine rt_get F hP (rt_c9 _ rt_k6) (rt_l9 rt_k6) inX9 rfl 1 (by decide) kw_1005 rfl rfl dX9_enter_32 ?_
          refine lv_iconst (v := 1) hx hb dX9_enter_35 (by decide) ?_
          refine lv_iload_n hx hb dX9_enter_36 rfl (lv_at hl 2 rfl) ?_
          refine lv_ishl hx hb dX9_enter_37 ?_
          refine lv_ior hx hb dX9_enter_38 ?_
          refine rt_put F hP hD hS (rt_c9 _ rt_k6) (rt_l9 rt_k6) inX9 tyX9 tyX9_ok nmX9 rfl 1 (by decide) kw_1005 rfl rfl rfl rfl (Nat.le_of_ble_eq_true rfl) (rt_c9 _ rt_k6) dX9_enter_39 (fun M_39 H locs eM_39 hP hS => ?_)
          replace hw := hw M_39 eM_39
          refine lv_aload_n hx hb dX9_enter_42 rfl (lv_at hl 0 rfl) ?_
          refine rt_get F hP (rt_c9 _ rt_k6) (rt_l9 rt_k6) inX9 rfl 2 (by decide) kw_1007 rfl rfl dX9_enter_43 ?_
          refine lv_iload_n hx hb dX9_enter_46 rfl (lv_at hl 2 rfl) ?_
          refine lv_iconst (v := 0) hx hb dX9_enter_47 (by decide) ?_
          have hv48 := hw.1
          replace hw := hw.2
          refine rt_iast F hP hD hS rt_a7 hv48 dX9_enter_48 (fun M_48 H locs eM_48 hP hS => ?_)
          replace hw := hw M_48 eM_48
          refine lv_aload_n hx hb dX9_enter_49 rfl (lv_at hl 0 rfl) ?_
          refine lv_aload_n hx hb dX9_enter_50 rfl (lv_at hl 0 rfl) ?_
          refine rt_get F hP (rt_c9 _ rt_k6) (rt_l9 rt_k6) inX9 rfl 10 (by decide) kw_1022 rfl rfl dX9_enter_51 ?_
          refine rt_getN F hP (rt_c12 _ rt_k0) (rt_l12 rt_k0) inX12 rfl 1 (by decide) kw_1141 rfl rfl dX9_enter_54 ?_
          refine rt_get F hP (rt_c8 _ rt_k1) (rt_l8 rt_k1) inX8 rfl 0 (by decide) kw_986 rfl rfl dX9_enter_57 ?_
          refine lv_iload_n hx hb dX9_enter_60 rfl (lv_at hl 2 rfl) ?_
          refine rt_call4 (rt_runV (n := 1) (As := [.int x2]) (rest := [.ref (ad 6)]) F hP hN hS (rt_frs hS.1) (rt_c13 _ rt_k2) (rt_l13 rt_k2) rfl (mtJx4a65c_get_915e3 l D cA ad hI _ x2 M_48 _ hw) kw_1186 kw_1322 kw_64 kw_1184 kw_1185 ⟨by decide, by decide, by decide +kernel⟩ ⟨rfl, rfl, (Nat.le_of_ble_eq_true rfl), (Nat.le_of_ble_eq_true rfl)⟩ rfl hl.1 rfl (Nat.le_of_ble_eq_true rfl) dX9_enter_61 ⟨Nat.zero_le _, Nat.zero_le _⟩) hS (fun _ h => h) (fun M_61 H locs hw hP hS _ _ => ?_)
          refine rt_cast4 F hP kw_1323 dX9_enter_64 ?_
          refine rt_get F hP (rt_c10 _ rt_k4) (rt_l10 rt_k4) inX10 rfl 3 (by decide) kw_1064 rfl rfl dX9_enter_67 ?_
          refine rt_callv (rt_runV (n := 1) (As := [.ref (ad 13)]) (rest := []) F hP hN hS (rt_frs hS.1) (rt_c9 _ rt_k6) (rt_l9 rt_k6) rfl (mtX9_act l D cA ad hI _ M_61 _ hw) kw_1327 kw_1324 kw_65 kw_1326 kw_33 ⟨by decide, by decide, by decide +kernel⟩ ⟨rfl, rfl, Nat.le_of_ble_eq_true rfl, Nat.le_of_ble_eq_true rfl⟩ rfl hl.1 rfl (Nat.le_of_ble_eq_true rfl) dX9_enter_70 ⟨Nat.zero_le _, Nat.zero_le _⟩) hS (fun _ h => h) (fun M_70 H locs hw hP hS _ _ => ?_)
          exact J73 x2 M_70 _ _ _ hw hP hS (lv_sub hl [0, 1, 2] rfl)
        · replace hw := hw.2 hc24
          refine lv_goto (tgt := 73) hx hb dX9_enter_27 (by decide) ?_
          exact J73 x2 M_21 _ _ _ hw hP hS (lv_sub hl [0, 1, 2] rfl)
  unfold wpX9_enter at hw
  refine lv_iconst (v := 0) hx hb dX9_enter_0 (by decide) ?_
  refine lv_istore_n (lv' := [(2, .int 0), (0, .ref (ad 6)), (1, .int p1)]) hx hb dX9_enter_1 rfl hl (by decide) rfl (fun ls hl => ?_)
  obtain ⟨n_, hw⟩ := hw
  exact L2 n_ 0 M _ _ _ hw hP hS (lv_sub hl [1, 2, 0] rfl)
-- ===== X9_chosen
def lbX9_chosen_12 (p1 : Int32) (p2 : Int32) (p3 : Int32) (Q : Int32 → pt_M → Prop) (R3 : Int32 → pt_M → Prop) (R12 : Int32 → Int32 → pt_M → Prop) (x4 : Int32) (x5 : Int32) (M : pt_M) : Prop :=
  wpJx4a65c_size_8abf5 5 M (fun (r_24 : Int32) (M_24 : pt_M) => (r_24 ≤ x5 → wpX8_parent x4 M_24 (fun (r_101 : Int32) (M_101 : pt_M) => R3 r_101 M_101)) ∧ (¬ r_24 ≤ x5 → False))
def lpX9_chosen_12 (p1 : Int32) (p2 : Int32) (p3 : Int32) (Q : Int32 → pt_M → Prop) (R3 : Int32 → pt_M → Prop) : Nat → Int32 → Int32 → pt_M → Prop
  | 0 => fun _ _ _ => False
  | n + 1 => fun x4 x5 M => lbX9_chosen_12 p1 p2 p3 Q R3 (lpX9_chosen_12 p1 p2 p3 Q R3 n) x4 x5 M
def lbX9_chosen_3 (p1 : Int32) (p2 : Int32) (p3 : Int32) (Q : Int32 → pt_M → Prop)  (R3 : Int32 → pt_M → Prop) (x4 : Int32) (M : pt_M) : Prop :=
  (x4 = (-1) → Q (-1) M) ∧ (¬ x4 = (-1) → ∃ n : Nat, lpX9_chosen_12 p1 p2 p3 Q R3 n x4 0 M)
def lpX9_chosen_3 (p1 : Int32) (p2 : Int32) (p3 : Int32) (Q : Int32 → pt_M → Prop)  : Nat → Int32 → pt_M → Prop
  | 0 => fun _ _ => False
  | n + 1 => fun x4 M => lbX9_chosen_3 p1 p2 p3 Q (lpX9_chosen_3 p1 p2 p3 Q n) x4 M
def wpX9_chosen (p1 : Int32) (p2 : Int32) (p3 : Int32) (M : pt_M) (Q : Int32 → pt_M → Prop) : Prop :=
  ∃ n : Nat, lpX9_chosen_3 p1 p2 p3 Q n p1 M
set_option maxHeartbeats 4000000 in
set_option maxRecDepth 100000 in
theorem mtX9_chosen (l : Launch) (D : va_G) (cA : Nat → ClassId) (ad : Nat → Nat) (hI : rt_I ad) (sz : Nat) (p1 : Int32) (p2 : Int32) (p3 : Int32) (M : pt_M) (Q : Int32 → pt_M → Prop) (hw : wpX9_chosen p1 p2 p3 M Q) : Met l yX9_chosen (Cond.code yX9_chosen cX9_chosen 6 (some .int) :: lw_all) ({ frames := 4, cells := 0, slots := 0, locals := 85 } : Room) (va_Pc [.ref (ad 6), .int p1, .int p2, .int p3] (rt_P D cA ad sz M)) (va_Qi Q (rt_B D cA ad) (rt_fr ad sz)) 0 0 (rt_fr ad sz) := by
  refine Met.ofW (cc := cX9_chosen) (maxL := 6) (ret := (some .int)) (by decide) rfl ?_
  intro p e s m args below meth c s₁ B hml hv
  obtain ⟨rfl, hsz, hP, hK, hN⟩ := hv
  have hx := B.exec
  have hb := B.bytes
  have hr := B.returns
  have hts0 := atoms_spec (ws := (Cond.code yX9_chosen cX9_chosen 6 (some .int) :: lw_all)) B.pre
  have hown : s.vm.findClass RX9 = some m.cls := findClass_of_methodNamed B.named
  have hlocks := B.notSynchronized
  subst hsz
  have F : pt_F p m c cX9_chosen 6 s _ RX9 D cA := ⟨⟨hx, hb, hml, hown, fun w h => hts0 w (List.mem_cons_of_mem _ h)⟩, hK⟩
  have hD : ∀ M, va_D (rt_fr ad s.heap.size) (rt_W cA ad M) := rt_D hI (fun k h => Or.inl ⟨k, h, rfl⟩)
  have hS : va_S (rt_fr ad s.heap.size) s.heap s.heap [] := va_S.rf
  have hl := lv_entry ([.ref (ad 6), .int p1, .int p2, .int p3]) (n := 6) (Nat.le_of_ble_eq_true rfl)
  rw [lg_entry_eq]
  generalize (lg_sl ([.ref (ad 6), .int p1, .int p2, .int p3]) ++ List.replicate (6 - (lg_sl ([.ref (ad 6), .int p1, .int p2, .int p3])).length) Slot.unset).toArray = ls at hl ⊢
  have hl : lv_has ls 6 [(0, .ref (ad 6)), (1, .int p1), (2, .int p2), (3, .int p3)] := hl
  have L3 : ∀ (n3 : Nat) (x4 : Int32) (M : pt_M) (H : Heap) (locs : List Loc) (ls : Array Slot), lpX9_chosen_3 p1 p2 p3 Q n3 x4 M → va_P D pt_cl (rt_W cA ad M) H → va_S (rt_fr ad s.heap.size) s.heap H locs → lv_has ls 6 [(0, .ref (ad 6)), (2, .int p2), (3, .int p3), (4, .int x4)] → W p l e (headSpec (Cond.code yX9_chosen cX9_chosen 6 (some .int) :: lw_all) ({ frames := 4, cells := 0, slots := 0, locals := 85 } : Room)).room s m ([.ref (ad 6), .int p1, .int p2, .int p3] : List Value).toArray below meth c H locs 0 0 (MQ below (va_Qi Q (rt_B D cA ad) (rt_fr ad s.heap.size)) ([.ref (ad 6), .int p1, .int p2, .int p3] : List Value).toArray s 0 0 (rt_fr ad s.heap.size)) (F0 m 3 ls []) := by
    intro n3
    induction n3 with
    | zero => intro x4 M H locs ls hw; exact hw.elim
    | succ n3 ih3 =>
      have L12 : ∀ (n12 : Nat) (x4 : Int32) (x5 : Int32) (M : pt_M) (H : Heap) (locs : List Loc) (ls : Array Slot), lpX9_chosen_12 p1 p2 p3 Q (lpX9_chosen_3 p1 p2 p3 Q n3) n12 x4 x5 M → va_P D pt_cl (rt_W cA ad M) H → va_S (rt_fr ad s.heap.size) s.heap H locs → lv_has ls 6 [(0, .ref (ad 6)), (2, .int p2), (3, .int p3), (4, .int x4), (5, .int x5)] → W p l e (headSpec (Cond.code yX9_chosen cX9_chosen 6 (some .int) :: lw_all) ({ frames := 4, cells := 0, slots := 0, locals := 85 } : Room)).room s m ([.ref (ad 6), .int p1, .int p2, .int p3] : List Value).toArray below meth c H locs 0 0 (MQ below (va_Qi Q (rt_B D cA ad) (rt_fr ad s.heap.size)) ([.ref (ad 6), .int p1, .int p2, .int p3] : List Value).toArray s 0 0 (rt_fr ad s.heap.size)) (F0 m 12 ls []) := by
        intro n12
        induction n12 with
        | zero => intro x4 x5 M H locs ls hw; exact hw.elim
        | succ n12 ih12 =>
          intro x4 x5 M H locs ls hw hP hS hl
          replace hw : lbX9_chosen_12 p1 p2 p3 Q (lpX9_chosen_3 p1 p2 p3 Q n3) (lpX9_chosen_12 p1 p2 p3 Q (lpX9_chosen_3 p1 p2 p3 Q n3) n12) x4 x5 M := hw
          unfold lbX9_chosen_12 at hw
          refine lv_iload hx hb dX9_chosen_12 (lv_at hl 4 rfl) ?_
          refine lv_aload_n hx hb dX9_chosen_14 rfl (lv_at hl 0 rfl) ?_
          refine rt_get F hP (rt_c9 _ rt_k6) (rt_l9 rt_k6) inX9 rfl 10 (by decide) kw_1022 rfl rfl dX9_chosen_15 ?_
          refine rt_getN F hP (rt_c12 _ rt_k0) (rt_l12 rt_k0) inX12 rfl 1 (by decide) kw_1141 rfl rfl dX9_chosen_18 ?_
          refine rt_get F hP (rt_c8 _ rt_k1) (rt_l8 rt_k1) inX8 rfl 1 (by decide) kw_989 rfl rfl dX9_chosen_21 ?_
          refine rt_calli (rt_runV (n := 0) (As := []) (rest := [.int x5]) F hP hN hS (rt_frs hS.1) (rt_c13 _ rt_k5) (rt_l13 rt_k5) rfl (mtJx4a65c_size_8abf5 l D cA ad hI _ 5 rt_k5 M _ hw) kw_1167 kw_1320 kw_64 kw_1165 kw_1166 ⟨by decide, by decide, by decide +kernel⟩ ⟨rfl, rfl, Nat.le_of_ble_eq_true rfl, Nat.le_of_ble_eq_true rfl⟩ rfl hl.1 rfl (Nat.le_of_ble_eq_true rfl) dX9_chosen_24 ⟨Nat.zero_le _, Nat.zero_le _⟩) hS (fun _ h => h) (fun r_24 M_24 H locs hw hP hS _ _ => ?_)
          refine lv_icmp_ge (tgt := 92) hx hb dX9_chosen_27 (by decide) (fun hc27 => ?_) (fun hc27 => ?_)
          · replace hw := hw.1 hc27
            refine lv_aload_n hx hb dX9_chosen_92 rfl (lv_at hl 0 rfl) ?_
            refine rt_get F hP (rt_c9 _ rt_k6) (rt_l9 rt_k6) inX9 rfl 10 (by decide) kw_1022 rfl rfl dX9_chosen_93 ?_
            refine rt_getN F hP (rt_c12 _ rt_k0) (rt_l12 rt_k0) inX12 rfl 1 (by decide) kw_1141 rfl rfl dX9_chosen_96 ?_
            refine lv_iload hx hb dX9_chosen_99 (lv_at hl 3 rfl) ?_
            refine rt_calli (rt_runV (n := 1) (As := [.int x4]) (rest := []) F hP hN hS (rt_frs hS.1) (rt_c8 _ rt_k1) (rt_l8 rt_k1) rfl (mtX8_parent l D cA ad hI _ x4 M_24 _ hw) kw_1219 kw_1360 kw_61 kw_1217 kw_1218 ⟨by decide, by decide, by decide +kernel⟩ ⟨rfl, rfl, Nat.le_of_ble_eq_true rfl, Nat.le_of_ble_eq_true rfl⟩ rfl hl.1 rfl (Nat.le_of_ble_eq_true rfl) dX9_chosen_101 ⟨Nat.zero_le _, Nat.zero_le _⟩) hS (fun _ h => h) (fun r_101 M_101 H locs hw hP hS _ _ => ?_)
            refine lv_istore (lv' := [(4, .int r_101), (0, .ref (ad 6)), (2, .int p2), (3, .int p3), (5, .int x5)]) hx hb dX9_chosen_104 hl (by decide) rfl (fun ls hl => ?_)
            refine lv_goto (tgt := 3) hx hb dX9_chosen_106 (by decide) ?_
            exact ih3 r_101 M_101 _ _ _ hw hP hS (lv_sub hl [1, 2, 3, 0] rfl)
          · replace hw := hw.2 hc27
            refine lv_aload_n hx hb dX9_chosen_30 rfl (lv_at hl 0 rfl) ?_
            refine rt_get F hP (rt_c9 _ rt_k6) (rt_l9 rt_k6) inX9 rfl 10 (by decide) kw_1022 rfl rfl dX9_chosen_31 ?_
            refine rt_getN F hP (rt_c12 _ rt_k0) (rt_l12 rt_k0) inX12 rfl 1 (by decide) kw_1141 rfl rfl dX9_chosen_34 ?_
            refine rt_get F hP (rt_c8 _ rt_k1) (rt_l8 rt_k1) inX8 rfl 1 (by decide) kw_989 rfl rfl dX9_chosen_37 ?_
            refine lv_iload hx hb dX9_chosen_40 (lv_at hl 4 rfl) ?_
            exact hw.elim
      intro x4 M H locs ls hw hP hS hl
      replace hw : lbX9_chosen_3 p1 p2 p3 Q (lpX9_chosen_3 p1 p2 p3 Q n3) x4 M := hw
      unfold lbX9_chosen_3 at hw
      refine lv_iload hx hb dX9_chosen_3 (lv_at hl 3 rfl) ?_
      refine lv_iconst (v := (-1)) hx hb dX9_chosen_5 (by decide) ?_
      refine lv_icmp_eq (tgt := 109) hx hb dX9_chosen_6 (by decide) (fun hc6 => ?_) (fun hc6 => ?_)
      · replace hw := hw.1 hc6
        refine lv_iconst (v := (-1)) hx hb dX9_chosen_109 (by decide) ?_
        exact W.iret (v := (-1)) hx hb hr (fun t ht hW => ⟨⟨(-1), M, rfl, hw, by unfold rt_B; rw [ht]; exact hP⟩, hS.F ht⟩) hS.2.2 dX9_chosen_110
      · replace hw := hw.2 hc6
        refine lv_iconst (v := 0) hx hb dX9_chosen_9 (by decide) ?_
        refine lv_istore (lv' := [(5, .int 0), (0, .ref (ad 6)), (2, .int p2), (3, .int p3), (4, .int x4)]) hx hb dX9_chosen_10 hl (by decide) rfl (fun ls hl => ?_)
        obtain ⟨n_, hw⟩ := hw
        exact L12 n_ x4 0 M _ _ _ hw hP hS (lv_sub hl [1, 2, 3, 4, 0] rfl)
  unfold wpX9_chosen at hw
  refine lv_iload_n hx hb dX9_chosen_0 rfl (lv_at hl 1 rfl) ?_
  refine lv_istore (lv' := [(4, .int p1), (0, .ref (ad 6)), (1, .int p1), (2, .int p2), (3, .int p3)]) hx hb dX9_chosen_1 hl (by decide) rfl (fun ls hl => ?_)
  obtain ⟨n_, hw⟩ := hw
  exact L3 n_ p1 M _ _ _ hw hP hS (lv_sub hl [1, 3, 4, 0] rfl)
-- ===== X12_thrown
def wpX12_thrown  (M : pt_M) (Q : Int32 → pt_M → Prop) : Prop :=
  Q (M 0 0) M
set_option maxHeartbeats 4000000 in
set_option maxRecDepth 100000 in
theorem mtX12_thrown (l : Launch) (D : va_G) (cA : Nat → ClassId) (ad : Nat → Nat) (hI : rt_I ad) (sz : Nat) (M : pt_M) (Q : Int32 → pt_M → Prop) (hw : wpX12_thrown M Q) : Met l yX12_thrown (Cond.code yX12_thrown cX12_thrown 1 (some .int) :: lw_all) ({ frames := 0, cells := 0, slots := 0, locals := 0 } : Room) (va_Pc [.ref (ad 0)] (rt_P D cA ad sz M)) (va_Qi Q (rt_B D cA ad) (rt_fr ad sz)) 0 0 (rt_fr ad sz) := by
  refine Met.ofW (cc := cX12_thrown) (maxL := 1) (ret := (some .int)) (by decide) rfl ?_
  intro p e s m args below meth c s₁ B hml hv
  obtain ⟨rfl, hsz, hP, hK, hN⟩ := hv
  have hx := B.exec
  have hb := B.bytes
  have hr := B.returns
  have hts0 := atoms_spec (ws := (Cond.code yX12_thrown cX12_thrown 1 (some .int) :: lw_all)) B.pre
  have hown : s.vm.findClass RX12 = some m.cls := findClass_of_methodNamed B.named
  have hlocks := B.notSynchronized
  subst hsz
  have F : pt_F p m c cX12_thrown 1 s _ RX12 D cA := ⟨⟨hx, hb, hml, hown, fun w h => hts0 w (List.mem_cons_of_mem _ h)⟩, hK⟩
  have hD : ∀ M, va_D (rt_fr ad s.heap.size) (rt_W cA ad M) := rt_D hI (fun k h => Or.inl ⟨k, h, rfl⟩)
  have hS : va_S (rt_fr ad s.heap.size) s.heap s.heap [] := va_S.rf
  have hl := lv_entry ([.ref (ad 0)]) (n := 1) (Nat.le_of_ble_eq_true rfl)
  rw [lg_entry_eq]
  generalize (lg_sl ([.ref (ad 0)]) ++ List.replicate (1 - (lg_sl ([.ref (ad 0)])).length) Slot.unset).toArray = ls at hl ⊢
  have hl : lv_has ls 1 [(0, .ref (ad 0))] := hl
  unfold wpX12_thrown at hw
  refine lv_aload_n hx hb dX12_thrown_0 rfl (lv_at hl 0 rfl) ?_
  refine rt_get F hP (rt_c12 _ rt_k0) (rt_l12 rt_k0) inX12 rfl 0 (by decide) kw_1139 rfl rfl dX12_thrown_1 ?_
  exact W.iret (v := (M 0 0)) hx hb hr (fun t ht hW => ⟨⟨(M 0 0), M, rfl, hw, by unfold rt_B; rw [ht]; exact hP⟩, hS.F ht⟩) hS.2.2 dX12_thrown_4
